/-! the class's doItem, the other tokens: written by wip/gen/p58.py -/
set_option maxHeartbeats 4000000 in
set_option maxRecDepth 100000 in
theorem m_MA_doItem_div0 (l : Launch) (G : WG) (S : SS) (op ar : Nat → Int32) (E sz : Nat → Nat) (F q p c i : Nat) (s : SG) (hq : q < 6) (hp : p < 4) (hi : i < sz p) (hok : OKs S op ar E sz q p c s) (hlt : ¬ 300 ≤ gst s.1) (hop : op (32 * p + i) = 2) (ha : ar (32 * p + i) = 0) (hh : Nat) (hhh : 4 ≤ hh) : Ce l y_MA_doItem b_MA_doItem 6 hh G [.ref (gA G 1), .int (nI q), .int (nI i)] S (fun e S1 => BlkP S S1 q p c (gnf s.1) e (sI op ar E sz (sB op ar E sz F) q c (32 * p + i) s)) := by
  have hst3 := hok.2.1.1.2.1
  have hpr := hok.2.2.1.1
  have hz32 := (hok.1 p hp).2.1
  have hok0 := hok.stp hq hlt
  have hsl := stp_sl hok
  have hkb0 := stp_kb S q (nI (gst s.1 + 1))
  refine mk l (by decide +kernel) (Nat.le_of_ble_eq_true rfl) ?_
  intro pp_ ee_ ss_ mm_ be_ me_ co_ ls hx hb hr hlk hml hC hP hS hl
  have hl : lv_has ls 6 [(0, .ref (gA G 1)), (1, .int (nI q)), (2, .int (nI i))] := hl
  refine lv_aload_n hx hb d_MA_doItem_0 rfl (lv_at hl 0 rfl) ?_
  refine r_get hx hb hC hP i_MA (1) (by decide) rfl rfl 5 (by decide) l_MA_56 rfl d_MA_doItem_1 ?_
  rw [show S 1 5 = nI (gst s.1) from hok.2.1.1.1]
  refine lv_sipush (v := 300) hx hb d_MA_doItem_4 (by decide) ?_
  refine lv_icmp_lt (tgt := 14) hx hb d_MA_doItem_7 (by decide) (fun c_7 => ?_) (fun c_7 => absurd (show gst s.1 < 300 by omega) (fun h => c_7 ((q_lt (a := gst s.1) (b := 300) rfl rfl (by omega) (by omega)).mpr h)))
  refine lv_aload_n hx hb d_MA_doItem_14 rfl (lv_at hl 0 rfl) ?_
  refine lv_dup hx hb d_MA_doItem_15 rfl ?_
  refine r_get hx hb hC hP i_MA (1) (by decide) rfl rfl 5 (by decide) l_MA_56 rfl d_MA_doItem_16 ?_
  rw [show S 1 5 = nI (gst s.1) from hok.2.1.1.1]
  refine lv_iconst (v := 1) hx hb d_MA_doItem_19 (by decide) ?_
  refine lv_iadd hx hb d_MA_doItem_20 ?_
  rw [show (nI (gst s.1)) + 1 = nI (gst s.1 + 1) from nI_1 _]
  refine r_put hx hb hC hP hS i_MA t_MA t_MA_ok n_MA (1) (by decide) rfl rfl 5 (by decide) l_MA_56 rfl rfl rfl (Nat.le_of_ble_eq_true rfl) d_MA_doItem_21 (fun H locs hP hS => ?_)
  refine lv_aload_n hx hb d_MA_doItem_24 rfl (lv_at hl 0 rfl) ?_
  refine r_get hx hb hC hP i_MA (1) (by decide) rfl rfl 1 (by decide) l_MA_19 rfl d_MA_doItem_25 ?_
  refine lv_iload_n hx hb d_MA_doItem_28 rfl (lv_at hl 1 rfl) ?_
  refine r_frame hx hb hC hP q rfl (by omega) d_MA_doItem_29 ?_
  refine lv_astore_n (lv' := [(3, .ref (gA G (27 + 2 * q))), (0, .ref (gA G 1)), (1, .int (nI q)), (2, .int (nI i))]) hx hb d_MA_doItem_30 rfl hl (by decide) rfl (fun ls hl => ?_)
  refine lv_aload_n hx hb d_MA_doItem_31 rfl (lv_at hl 1 rfl) ?_
  refine lv_iload_n hx hb d_MA_doItem_32 rfl (lv_at hl 2 rfl) ?_
  refine r_r (post := fun i S1 => i = 11 + 4 * p ∧ S1 = su S 1 5 (nI (gst s.1 + 1))) hC hS (r_runV (np := 1) (As := [.int (nI q)]) (rest := []) hx hb hml hC hP hS (by decide) rfl rfl (m_MA_textOf l G (su S 1 5 (nI (gst s.1 + 1))) q p hq hp ((su_k _ _ (by omega)).trans hpr)) l_MA_113 im_MA_textOf se_MA_textOf in_MA c_MA_textOf_in (by decide +kernel) ⟨by simp only [rmF]; omega, by simp only [rmF]; omega⟩ rfl hl.1 (Nat.le_of_ble_eq_true rfl) d_MA_doItem_33 ⟨Nat.le_refl _, Nat.le_refl _⟩) (fun i_33 S_33 H locs hw hP hS => ?_)
  obtain ⟨rfl, hSe⟩ := hw
  rw [hSe] at hP
  refine lv_astore (lv' := [(4, .ref (gA G (11 + 4 * p))), (3, .ref (gA G (27 + 2 * q))), (0, .ref (gA G 1)), (1, .int (nI q)), (2, .int (nI i))]) hx hb d_MA_doItem_36 hl (by decide) rfl (fun ls hl => ?_)
  refine lv_aload hx hb d_MA_doItem_38 (lv_at hl 0 rfl) ?_
  refine r_getN hx hb hC hP i_TE (11 + 4 * p) (by omega) (sh_T G _ hp) rfl 1 (by decide) k_MA_130 rfl d_MA_doItem_40 ?_
  refine lv_iload_n hx hb d_MA_doItem_43 rfl (lv_at hl 4 rfl) ?_
  refine r_ild hx hb hC hP (13 + 4 * p) (by omega) (sh_T2 G _ hp) i rfl (by omega) (by decide) d_MA_doItem_44 ?_
  rw [show (su S 1 5 (nI (gst s.1 + 1))) (13 + 4 * p) i = S (13 + 4 * p) i from by rw [su_cell _ _ _ (by omega)]]
  rw [show S (13 + 4 * p) i = ar (32 * p + i) from ((hok.1 p hp).2.2 i hi).2.1]
  refine lv_istore (lv' := [(5, .int (ar (32 * p + i))), (4, .ref (gA G (11 + 4 * p))), (3, .ref (gA G (27 + 2 * q))), (0, .ref (gA G 1)), (1, .int (nI q)), (2, .int (nI i))]) hx hb d_MA_doItem_45 hl (by decide) rfl (fun ls hl => ?_)
  refine lv_aload hx hb d_MA_doItem_47 (lv_at hl 1 rfl) ?_
  refine r_getN hx hb hC hP i_TE (11 + 4 * p) (by omega) (sh_T G _ hp) rfl 0 (by decide) k_MA_133 rfl d_MA_doItem_49 ?_
  refine lv_iload_n hx hb d_MA_doItem_52 rfl (lv_at hl 5 rfl) ?_
  refine r_ild hx hb hC hP (12 + 4 * p) (by omega) (sh_T1 G _ hp) i rfl (by omega) (by decide) d_MA_doItem_53 ?_
  rw [show (su S 1 5 (nI (gst s.1 + 1))) (12 + 4 * p) i = S (12 + 4 * p) i from by rw [su_cell _ _ _ (by omega)]]
  rw [show S (12 + 4 * p) i = 2 from (((hok.1 p hp).2.2 i hi).1.trans hop)]
  refine lv_tableIn (off := 106) (tgt := 160) hx hb d_MA_doItem_54 (by decide) (by decide) (by decide) (by decide) ?_
  refine lv_aload_n hx hb d_MA_doItem_160 rfl (lv_at hl 3 rfl) ?_
  refine lv_aload_n hx hb d_MA_doItem_161 rfl (lv_at hl 2 rfl) ?_
  refine lv_iload hx hb d_MA_doItem_162 (lv_at hl 0 rfl) ?_
  refine r_e (post := fun e S1 => (e = if ar (32 * p + i) = 0 then 4 else 0) ∧ S1 = if ar (32 * p + i) = 0 then mRaise (su S 1 5 (nI (gst s.1 + 1))) (gnf s.1) q 6 (-1) else su (su S 1 5 (nI (gst s.1 + 1))) (27 + 2 * q) 2 ((su S 1 5 (nI (gst s.1 + 1))) (27 + 2 * q) 2 / ar (32 * p + i))) hC hS (r_runV (np := 2) (As := [.ref (gA G (27 + 2 * q)), .int (ar (32 * p + i))]) (rest := []) hx hb hml hC hP hS (by decide) rfl rfl (m_MA_doDivide l G (su S 1 5 (nI (gst s.1 + 1))) (gnf s.1) q (by have h1 := hok.2.2.2.1; omega) hq ((su_k _ _ (by omega)).trans hok.2.1.1.2.2.2.2.2.2.1) (ar (32 * p + i))) l_MA_140 im_MA_doDivide se_MA_doDivide in_MA c_MA_doDivide_in (by decide +kernel) ⟨by simp only [rmF]; omega, by simp only [rmF]; omega⟩ rfl hl.1 (Nat.le_of_ble_eq_true rfl) d_MA_doItem_164 ⟨Nat.le_refl _, Nat.le_refl _⟩) (fun i_164 S_164 H locs hi_164 hw hP hS => ?_)
  obtain ⟨he9, hSe⟩ := hw
  rw [if_pos ha] at he9 hSe
  subst he9
  rw [hSe] at hP
  exact e_e (post := fun e S1 => BlkP S S1 q p c (gnf s.1) e (sI op ar E sz (sB op ar E sz F) q c (32 * p + i) s)) hx hb hr hlk hC hP hS d_MA_doItem_167 (by decide) (by unfold sI; rw [if_neg hlt]; unfold sItem; rw [hop, if_neg (by decide), if_neg (by decide), if_pos rfl]; rw [if_pos ha]; exact (blk_raise hok0 hq hsl 6 (c0 := 0) (Nat.zero_le _)).pre hkb0)

set_option maxHeartbeats 4000000 in
set_option maxRecDepth 100000 in
theorem m_MA_doItem_div (l : Launch) (G : WG) (S : SS) (op ar : Nat → Int32) (E sz : Nat → Nat) (F q p c i : Nat) (s : SG) (hq : q < 6) (hp : p < 4) (hi : i < sz p) (hok : OKs S op ar E sz q p c s) (hlt : ¬ 300 ≤ gst s.1) (hop : op (32 * p + i) = 2) (ha : ¬ ar (32 * p + i) = 0) (hh : Nat) (hhh : 4 ≤ hh) : Ce l y_MA_doItem b_MA_doItem 6 hh G [.ref (gA G 1), .int (nI q), .int (nI i)] S (fun e S1 => BlkP S S1 q p c (gnf s.1) e (sI op ar E sz (sB op ar E sz F) q c (32 * p + i) s)) := by
  have hst3 := hok.2.1.1.2.1
  have hpr := hok.2.2.1.1
  have hz32 := (hok.1 p hp).2.1
  have hok0 := hok.stp hq hlt
  have hsl := stp_sl hok
  have hkb0 := stp_kb S q (nI (gst s.1 + 1))
  refine mk l (by decide +kernel) (Nat.le_of_ble_eq_true rfl) ?_
  intro pp_ ee_ ss_ mm_ be_ me_ co_ ls hx hb hr hlk hml hC hP hS hl
  have hl : lv_has ls 6 [(0, .ref (gA G 1)), (1, .int (nI q)), (2, .int (nI i))] := hl
  refine lv_aload_n hx hb d_MA_doItem_0 rfl (lv_at hl 0 rfl) ?_
  refine r_get hx hb hC hP i_MA (1) (by decide) rfl rfl 5 (by decide) l_MA_56 rfl d_MA_doItem_1 ?_
  rw [show S 1 5 = nI (gst s.1) from hok.2.1.1.1]
  refine lv_sipush (v := 300) hx hb d_MA_doItem_4 (by decide) ?_
  refine lv_icmp_lt (tgt := 14) hx hb d_MA_doItem_7 (by decide) (fun c_7 => ?_) (fun c_7 => absurd (show gst s.1 < 300 by omega) (fun h => c_7 ((q_lt (a := gst s.1) (b := 300) rfl rfl (by omega) (by omega)).mpr h)))
  refine lv_aload_n hx hb d_MA_doItem_14 rfl (lv_at hl 0 rfl) ?_
  refine lv_dup hx hb d_MA_doItem_15 rfl ?_
  refine r_get hx hb hC hP i_MA (1) (by decide) rfl rfl 5 (by decide) l_MA_56 rfl d_MA_doItem_16 ?_
  rw [show S 1 5 = nI (gst s.1) from hok.2.1.1.1]
  refine lv_iconst (v := 1) hx hb d_MA_doItem_19 (by decide) ?_
  refine lv_iadd hx hb d_MA_doItem_20 ?_
  rw [show (nI (gst s.1)) + 1 = nI (gst s.1 + 1) from nI_1 _]
  refine r_put hx hb hC hP hS i_MA t_MA t_MA_ok n_MA (1) (by decide) rfl rfl 5 (by decide) l_MA_56 rfl rfl rfl (Nat.le_of_ble_eq_true rfl) d_MA_doItem_21 (fun H locs hP hS => ?_)
  refine lv_aload_n hx hb d_MA_doItem_24 rfl (lv_at hl 0 rfl) ?_
  refine r_get hx hb hC hP i_MA (1) (by decide) rfl rfl 1 (by decide) l_MA_19 rfl d_MA_doItem_25 ?_
  refine lv_iload_n hx hb d_MA_doItem_28 rfl (lv_at hl 1 rfl) ?_
  refine r_frame hx hb hC hP q rfl (by omega) d_MA_doItem_29 ?_
  refine lv_astore_n (lv' := [(3, .ref (gA G (27 + 2 * q))), (0, .ref (gA G 1)), (1, .int (nI q)), (2, .int (nI i))]) hx hb d_MA_doItem_30 rfl hl (by decide) rfl (fun ls hl => ?_)
  refine lv_aload_n hx hb d_MA_doItem_31 rfl (lv_at hl 1 rfl) ?_
  refine lv_iload_n hx hb d_MA_doItem_32 rfl (lv_at hl 2 rfl) ?_
  refine r_r (post := fun i S1 => i = 11 + 4 * p ∧ S1 = su S 1 5 (nI (gst s.1 + 1))) hC hS (r_runV (np := 1) (As := [.int (nI q)]) (rest := []) hx hb hml hC hP hS (by decide) rfl rfl (m_MA_textOf l G (su S 1 5 (nI (gst s.1 + 1))) q p hq hp ((su_k _ _ (by omega)).trans hpr)) l_MA_113 im_MA_textOf se_MA_textOf in_MA c_MA_textOf_in (by decide +kernel) ⟨by simp only [rmF]; omega, by simp only [rmF]; omega⟩ rfl hl.1 (Nat.le_of_ble_eq_true rfl) d_MA_doItem_33 ⟨Nat.le_refl _, Nat.le_refl _⟩) (fun i_33 S_33 H locs hw hP hS => ?_)
  obtain ⟨rfl, hSe⟩ := hw
  rw [hSe] at hP
  refine lv_astore (lv' := [(4, .ref (gA G (11 + 4 * p))), (3, .ref (gA G (27 + 2 * q))), (0, .ref (gA G 1)), (1, .int (nI q)), (2, .int (nI i))]) hx hb d_MA_doItem_36 hl (by decide) rfl (fun ls hl => ?_)
  refine lv_aload hx hb d_MA_doItem_38 (lv_at hl 0 rfl) ?_
  refine r_getN hx hb hC hP i_TE (11 + 4 * p) (by omega) (sh_T G _ hp) rfl 1 (by decide) k_MA_130 rfl d_MA_doItem_40 ?_
  refine lv_iload_n hx hb d_MA_doItem_43 rfl (lv_at hl 4 rfl) ?_
  refine r_ild hx hb hC hP (13 + 4 * p) (by omega) (sh_T2 G _ hp) i rfl (by omega) (by decide) d_MA_doItem_44 ?_
  rw [show (su S 1 5 (nI (gst s.1 + 1))) (13 + 4 * p) i = S (13 + 4 * p) i from by rw [su_cell _ _ _ (by omega)]]
  rw [show S (13 + 4 * p) i = ar (32 * p + i) from ((hok.1 p hp).2.2 i hi).2.1]
  refine lv_istore (lv' := [(5, .int (ar (32 * p + i))), (4, .ref (gA G (11 + 4 * p))), (3, .ref (gA G (27 + 2 * q))), (0, .ref (gA G 1)), (1, .int (nI q)), (2, .int (nI i))]) hx hb d_MA_doItem_45 hl (by decide) rfl (fun ls hl => ?_)
  refine lv_aload hx hb d_MA_doItem_47 (lv_at hl 1 rfl) ?_
  refine r_getN hx hb hC hP i_TE (11 + 4 * p) (by omega) (sh_T G _ hp) rfl 0 (by decide) k_MA_133 rfl d_MA_doItem_49 ?_
  refine lv_iload_n hx hb d_MA_doItem_52 rfl (lv_at hl 5 rfl) ?_
  refine r_ild hx hb hC hP (12 + 4 * p) (by omega) (sh_T1 G _ hp) i rfl (by omega) (by decide) d_MA_doItem_53 ?_
  rw [show (su S 1 5 (nI (gst s.1 + 1))) (12 + 4 * p) i = S (12 + 4 * p) i from by rw [su_cell _ _ _ (by omega)]]
  rw [show S (12 + 4 * p) i = 2 from (((hok.1 p hp).2.2 i hi).1.trans hop)]
  refine lv_tableIn (off := 106) (tgt := 160) hx hb d_MA_doItem_54 (by decide) (by decide) (by decide) (by decide) ?_
  refine lv_aload_n hx hb d_MA_doItem_160 rfl (lv_at hl 3 rfl) ?_
  refine lv_aload_n hx hb d_MA_doItem_161 rfl (lv_at hl 2 rfl) ?_
  refine lv_iload hx hb d_MA_doItem_162 (lv_at hl 0 rfl) ?_
  refine r_e (post := fun e S1 => (e = if ar (32 * p + i) = 0 then 4 else 0) ∧ S1 = if ar (32 * p + i) = 0 then mRaise (su S 1 5 (nI (gst s.1 + 1))) (gnf s.1) q 6 (-1) else su (su S 1 5 (nI (gst s.1 + 1))) (27 + 2 * q) 2 ((su S 1 5 (nI (gst s.1 + 1))) (27 + 2 * q) 2 / ar (32 * p + i))) hC hS (r_runV (np := 2) (As := [.ref (gA G (27 + 2 * q)), .int (ar (32 * p + i))]) (rest := []) hx hb hml hC hP hS (by decide) rfl rfl (m_MA_doDivide l G (su S 1 5 (nI (gst s.1 + 1))) (gnf s.1) q (by have h1 := hok.2.2.2.1; omega) hq ((su_k _ _ (by omega)).trans hok.2.1.1.2.2.2.2.2.2.1) (ar (32 * p + i))) l_MA_140 im_MA_doDivide se_MA_doDivide in_MA c_MA_doDivide_in (by decide +kernel) ⟨by simp only [rmF]; omega, by simp only [rmF]; omega⟩ rfl hl.1 (Nat.le_of_ble_eq_true rfl) d_MA_doItem_164 ⟨Nat.le_refl _, Nat.le_refl _⟩) (fun i_164 S_164 H locs hi_164 hw hP hS => ?_)
  obtain ⟨he9, hSe⟩ := hw
  rw [if_neg ha] at he9 hSe
  subst he9
  rw [hSe] at hP
  exact e_e (post := fun e S1 => BlkP S S1 q p c (gnf s.1) e (sI op ar E sz (sB op ar E sz F) q c (32 * p + i) s)) hx hb hr hlk hC hP hS d_MA_doItem_167 (by decide) (by unfold sI; rw [if_neg hlt]; unfold sItem; rw [hop, if_neg (by decide), if_neg (by decide), if_pos rfl]; rw [if_neg ha]; rw [show (su S 1 5 (nI (gst s.1 + 1))) (27 + 2 * q) 2 = s.2.1 from hok0.2.2.1.2.1]; exact BlkP.on (hok0.acc hq _) ((acc_kb _ hq _).tr hkb0) (Nat.le_refl _))

set_option maxHeartbeats 4000000 in
set_option maxRecDepth 100000 in
theorem m_MA_doItem_raise (l : Launch) (G : WG) (S : SS) (op ar : Nat → Int32) (E sz : Nat → Nat) (F q p c i : Nat) (s : SG) (hq : q < 6) (hp : p < 4) (hi : i < sz p) (hok : OKs S op ar E sz q p c s) (hlt : ¬ 300 ≤ gst s.1) (hop : op (32 * p + i) = 7) (hh : Nat) (hhh : 4 ≤ hh) : Ce l y_MA_doItem b_MA_doItem 6 hh G [.ref (gA G 1), .int (nI q), .int (nI i)] S (fun e S1 => BlkP S S1 q p c (gnf s.1) e (sI op ar E sz (sB op ar E sz F) q c (32 * p + i) s)) := by
  have hst3 := hok.2.1.1.2.1
  have hpr := hok.2.2.1.1
  have hz32 := (hok.1 p hp).2.1
  have hok0 := hok.stp hq hlt
  have hsl := stp_sl hok
  have hkb0 := stp_kb S q (nI (gst s.1 + 1))
  refine mk l (by decide +kernel) (Nat.le_of_ble_eq_true rfl) ?_
  intro pp_ ee_ ss_ mm_ be_ me_ co_ ls hx hb hr hlk hml hC hP hS hl
  have hl : lv_has ls 6 [(0, .ref (gA G 1)), (1, .int (nI q)), (2, .int (nI i))] := hl
  refine lv_aload_n hx hb d_MA_doItem_0 rfl (lv_at hl 0 rfl) ?_
  refine r_get hx hb hC hP i_MA (1) (by decide) rfl rfl 5 (by decide) l_MA_56 rfl d_MA_doItem_1 ?_
  rw [show S 1 5 = nI (gst s.1) from hok.2.1.1.1]
  refine lv_sipush (v := 300) hx hb d_MA_doItem_4 (by decide) ?_
  refine lv_icmp_lt (tgt := 14) hx hb d_MA_doItem_7 (by decide) (fun c_7 => ?_) (fun c_7 => absurd (show gst s.1 < 300 by omega) (fun h => c_7 ((q_lt (a := gst s.1) (b := 300) rfl rfl (by omega) (by omega)).mpr h)))
  refine lv_aload_n hx hb d_MA_doItem_14 rfl (lv_at hl 0 rfl) ?_
  refine lv_dup hx hb d_MA_doItem_15 rfl ?_
  refine r_get hx hb hC hP i_MA (1) (by decide) rfl rfl 5 (by decide) l_MA_56 rfl d_MA_doItem_16 ?_
  rw [show S 1 5 = nI (gst s.1) from hok.2.1.1.1]
  refine lv_iconst (v := 1) hx hb d_MA_doItem_19 (by decide) ?_
  refine lv_iadd hx hb d_MA_doItem_20 ?_
  rw [show (nI (gst s.1)) + 1 = nI (gst s.1 + 1) from nI_1 _]
  refine r_put hx hb hC hP hS i_MA t_MA t_MA_ok n_MA (1) (by decide) rfl rfl 5 (by decide) l_MA_56 rfl rfl rfl (Nat.le_of_ble_eq_true rfl) d_MA_doItem_21 (fun H locs hP hS => ?_)
  refine lv_aload_n hx hb d_MA_doItem_24 rfl (lv_at hl 0 rfl) ?_
  refine r_get hx hb hC hP i_MA (1) (by decide) rfl rfl 1 (by decide) l_MA_19 rfl d_MA_doItem_25 ?_
  refine lv_iload_n hx hb d_MA_doItem_28 rfl (lv_at hl 1 rfl) ?_
  refine r_frame hx hb hC hP q rfl (by omega) d_MA_doItem_29 ?_
  refine lv_astore_n (lv' := [(3, .ref (gA G (27 + 2 * q))), (0, .ref (gA G 1)), (1, .int (nI q)), (2, .int (nI i))]) hx hb d_MA_doItem_30 rfl hl (by decide) rfl (fun ls hl => ?_)
  refine lv_aload_n hx hb d_MA_doItem_31 rfl (lv_at hl 1 rfl) ?_
  refine lv_iload_n hx hb d_MA_doItem_32 rfl (lv_at hl 2 rfl) ?_
  refine r_r (post := fun i S1 => i = 11 + 4 * p ∧ S1 = su S 1 5 (nI (gst s.1 + 1))) hC hS (r_runV (np := 1) (As := [.int (nI q)]) (rest := []) hx hb hml hC hP hS (by decide) rfl rfl (m_MA_textOf l G (su S 1 5 (nI (gst s.1 + 1))) q p hq hp ((su_k _ _ (by omega)).trans hpr)) l_MA_113 im_MA_textOf se_MA_textOf in_MA c_MA_textOf_in (by decide +kernel) ⟨by simp only [rmF]; omega, by simp only [rmF]; omega⟩ rfl hl.1 (Nat.le_of_ble_eq_true rfl) d_MA_doItem_33 ⟨Nat.le_refl _, Nat.le_refl _⟩) (fun i_33 S_33 H locs hw hP hS => ?_)
  obtain ⟨rfl, hSe⟩ := hw
  rw [hSe] at hP
  refine lv_astore (lv' := [(4, .ref (gA G (11 + 4 * p))), (3, .ref (gA G (27 + 2 * q))), (0, .ref (gA G 1)), (1, .int (nI q)), (2, .int (nI i))]) hx hb d_MA_doItem_36 hl (by decide) rfl (fun ls hl => ?_)
  refine lv_aload hx hb d_MA_doItem_38 (lv_at hl 0 rfl) ?_
  refine r_getN hx hb hC hP i_TE (11 + 4 * p) (by omega) (sh_T G _ hp) rfl 1 (by decide) k_MA_130 rfl d_MA_doItem_40 ?_
  refine lv_iload_n hx hb d_MA_doItem_43 rfl (lv_at hl 4 rfl) ?_
  refine r_ild hx hb hC hP (13 + 4 * p) (by omega) (sh_T2 G _ hp) i rfl (by omega) (by decide) d_MA_doItem_44 ?_
  rw [show (su S 1 5 (nI (gst s.1 + 1))) (13 + 4 * p) i = S (13 + 4 * p) i from by rw [su_cell _ _ _ (by omega)]]
  rw [show S (13 + 4 * p) i = ar (32 * p + i) from ((hok.1 p hp).2.2 i hi).2.1]
  refine lv_istore (lv' := [(5, .int (ar (32 * p + i))), (4, .ref (gA G (11 + 4 * p))), (3, .ref (gA G (27 + 2 * q))), (0, .ref (gA G 1)), (1, .int (nI q)), (2, .int (nI i))]) hx hb d_MA_doItem_45 hl (by decide) rfl (fun ls hl => ?_)
  refine lv_aload hx hb d_MA_doItem_47 (lv_at hl 1 rfl) ?_
  refine r_getN hx hb hC hP i_TE (11 + 4 * p) (by omega) (sh_T G _ hp) rfl 0 (by decide) k_MA_133 rfl d_MA_doItem_49 ?_
  refine lv_iload_n hx hb d_MA_doItem_52 rfl (lv_at hl 5 rfl) ?_
  refine r_ild hx hb hC hP (12 + 4 * p) (by omega) (sh_T1 G _ hp) i rfl (by omega) (by decide) d_MA_doItem_53 ?_
  rw [show (su S 1 5 (nI (gst s.1 + 1))) (12 + 4 * p) i = S (12 + 4 * p) i from by rw [su_cell _ _ _ (by omega)]]
  rw [show S (12 + 4 * p) i = 7 from (((hok.1 p hp).2.2 i hi).1.trans hop)]
  refine lv_tableIn (off := 146) (tgt := 200) hx hb d_MA_doItem_54 (by decide) (by decide) (by decide) (by decide) ?_
  refine lv_aload_n hx hb d_MA_doItem_200 rfl (lv_at hl 3 rfl) ?_
  refine lv_aload_n hx hb d_MA_doItem_201 rfl (lv_at hl 2 rfl) ?_
  refine lv_iload hx hb d_MA_doItem_202 (lv_at hl 0 rfl) ?_
  refine lv_iconst (v := (-1)) hx hb d_MA_doItem_204 (by decide) ?_
  refine r_e (post := fun e S1 => e = 4 ∧ S1 = mRaise (su S 1 5 (nI (gst s.1 + 1))) (gnf s.1) q (ar (32 * p + i)) (-1)) hC hS (r_runV (np := 3) (As := [.ref (gA G (27 + 2 * q)), .int (ar (32 * p + i)), .int (-1)]) (rest := []) hx hb hml hC hP hS (by decide) rfl rfl (m_MA_raise l G (su S 1 5 (nI (gst s.1 + 1))) (gnf s.1) q (by have h1 := hok.2.2.2.1; omega) hq ((su_k _ _ (by omega)).trans hok.2.1.1.2.2.2.2.2.2.1) (ar (32 * p + i)) (-1)) l_MA_99 im_MA_raise se_MA_raise in_MA c_MA_raise_in (by decide +kernel) ⟨by simp only [rmF]; omega, by simp only [rmF]; omega⟩ rfl hl.1 (Nat.le_of_ble_eq_true rfl) d_MA_doItem_205 ⟨Nat.le_refl _, Nat.le_refl _⟩) (fun i_205 S_205 H locs hi_205 hw hP hS => ?_)
  obtain ⟨rfl, hSe⟩ := hw
  rw [hSe] at hP
  exact e_e (post := fun e S1 => BlkP S S1 q p c (gnf s.1) e (sI op ar E sz (sB op ar E sz F) q c (32 * p + i) s)) hx hb hr hlk hC hP hS d_MA_doItem_208 (by decide) (by unfold sI; rw [if_neg hlt]; unfold sItem; rw [hop, if_neg (by decide), if_neg (by decide), if_neg (by decide), if_neg (by decide), if_neg (by decide), if_neg (by decide), if_neg (by decide), if_pos rfl]; exact (blk_raise hok0 hq hsl _ (c0 := 0) (Nat.zero_le _)).pre hkb0)

set_option maxHeartbeats 4000000 in
set_option maxRecDepth 100000 in
theorem m_MA_doItem_wrap (l : Launch) (G : WG) (S : SS) (op ar : Nat → Int32) (E sz : Nat → Nat) (F q p c i : Nat) (s : SG) (hq : q < 6) (hp : p < 4) (hi : i < sz p) (hok : OKs S op ar E sz q p c s) (hlt : ¬ 300 ≤ gst s.1) (hop : op (32 * p + i) = 8) (hh : Nat) (hhh : 4 ≤ hh) : Ce l y_MA_doItem b_MA_doItem 6 hh G [.ref (gA G 1), .int (nI q), .int (nI i)] S (fun e S1 => BlkP S S1 q p c (gnf s.1) e (sI op ar E sz (sB op ar E sz F) q c (32 * p + i) s)) := by
  have hst3 := hok.2.1.1.2.1
  have hpr := hok.2.2.1.1
  have hz32 := (hok.1 p hp).2.1
  have hok0 := hok.stp hq hlt
  have hsl := stp_sl hok
  have hkb0 := stp_kb S q (nI (gst s.1 + 1))
  refine mk l (by decide +kernel) (Nat.le_of_ble_eq_true rfl) ?_
  intro pp_ ee_ ss_ mm_ be_ me_ co_ ls hx hb hr hlk hml hC hP hS hl
  have hl : lv_has ls 6 [(0, .ref (gA G 1)), (1, .int (nI q)), (2, .int (nI i))] := hl
  refine lv_aload_n hx hb d_MA_doItem_0 rfl (lv_at hl 0 rfl) ?_
  refine r_get hx hb hC hP i_MA (1) (by decide) rfl rfl 5 (by decide) l_MA_56 rfl d_MA_doItem_1 ?_
  rw [show S 1 5 = nI (gst s.1) from hok.2.1.1.1]
  refine lv_sipush (v := 300) hx hb d_MA_doItem_4 (by decide) ?_
  refine lv_icmp_lt (tgt := 14) hx hb d_MA_doItem_7 (by decide) (fun c_7 => ?_) (fun c_7 => absurd (show gst s.1 < 300 by omega) (fun h => c_7 ((q_lt (a := gst s.1) (b := 300) rfl rfl (by omega) (by omega)).mpr h)))
  refine lv_aload_n hx hb d_MA_doItem_14 rfl (lv_at hl 0 rfl) ?_
  refine lv_dup hx hb d_MA_doItem_15 rfl ?_
  refine r_get hx hb hC hP i_MA (1) (by decide) rfl rfl 5 (by decide) l_MA_56 rfl d_MA_doItem_16 ?_
  rw [show S 1 5 = nI (gst s.1) from hok.2.1.1.1]
  refine lv_iconst (v := 1) hx hb d_MA_doItem_19 (by decide) ?_
  refine lv_iadd hx hb d_MA_doItem_20 ?_
  rw [show (nI (gst s.1)) + 1 = nI (gst s.1 + 1) from nI_1 _]
  refine r_put hx hb hC hP hS i_MA t_MA t_MA_ok n_MA (1) (by decide) rfl rfl 5 (by decide) l_MA_56 rfl rfl rfl (Nat.le_of_ble_eq_true rfl) d_MA_doItem_21 (fun H locs hP hS => ?_)
  refine lv_aload_n hx hb d_MA_doItem_24 rfl (lv_at hl 0 rfl) ?_
  refine r_get hx hb hC hP i_MA (1) (by decide) rfl rfl 1 (by decide) l_MA_19 rfl d_MA_doItem_25 ?_
  refine lv_iload_n hx hb d_MA_doItem_28 rfl (lv_at hl 1 rfl) ?_
  refine r_frame hx hb hC hP q rfl (by omega) d_MA_doItem_29 ?_
  refine lv_astore_n (lv' := [(3, .ref (gA G (27 + 2 * q))), (0, .ref (gA G 1)), (1, .int (nI q)), (2, .int (nI i))]) hx hb d_MA_doItem_30 rfl hl (by decide) rfl (fun ls hl => ?_)
  refine lv_aload_n hx hb d_MA_doItem_31 rfl (lv_at hl 1 rfl) ?_
  refine lv_iload_n hx hb d_MA_doItem_32 rfl (lv_at hl 2 rfl) ?_
  refine r_r (post := fun i S1 => i = 11 + 4 * p ∧ S1 = su S 1 5 (nI (gst s.1 + 1))) hC hS (r_runV (np := 1) (As := [.int (nI q)]) (rest := []) hx hb hml hC hP hS (by decide) rfl rfl (m_MA_textOf l G (su S 1 5 (nI (gst s.1 + 1))) q p hq hp ((su_k _ _ (by omega)).trans hpr)) l_MA_113 im_MA_textOf se_MA_textOf in_MA c_MA_textOf_in (by decide +kernel) ⟨by simp only [rmF]; omega, by simp only [rmF]; omega⟩ rfl hl.1 (Nat.le_of_ble_eq_true rfl) d_MA_doItem_33 ⟨Nat.le_refl _, Nat.le_refl _⟩) (fun i_33 S_33 H locs hw hP hS => ?_)
  obtain ⟨rfl, hSe⟩ := hw
  rw [hSe] at hP
  refine lv_astore (lv' := [(4, .ref (gA G (11 + 4 * p))), (3, .ref (gA G (27 + 2 * q))), (0, .ref (gA G 1)), (1, .int (nI q)), (2, .int (nI i))]) hx hb d_MA_doItem_36 hl (by decide) rfl (fun ls hl => ?_)
  refine lv_aload hx hb d_MA_doItem_38 (lv_at hl 0 rfl) ?_
  refine r_getN hx hb hC hP i_TE (11 + 4 * p) (by omega) (sh_T G _ hp) rfl 1 (by decide) k_MA_130 rfl d_MA_doItem_40 ?_
  refine lv_iload_n hx hb d_MA_doItem_43 rfl (lv_at hl 4 rfl) ?_
  refine r_ild hx hb hC hP (13 + 4 * p) (by omega) (sh_T2 G _ hp) i rfl (by omega) (by decide) d_MA_doItem_44 ?_
  rw [show (su S 1 5 (nI (gst s.1 + 1))) (13 + 4 * p) i = S (13 + 4 * p) i from by rw [su_cell _ _ _ (by omega)]]
  rw [show S (13 + 4 * p) i = ar (32 * p + i) from ((hok.1 p hp).2.2 i hi).2.1]
  refine lv_istore (lv' := [(5, .int (ar (32 * p + i))), (4, .ref (gA G (11 + 4 * p))), (3, .ref (gA G (27 + 2 * q))), (0, .ref (gA G 1)), (1, .int (nI q)), (2, .int (nI i))]) hx hb d_MA_doItem_45 hl (by decide) rfl (fun ls hl => ?_)
  refine lv_aload hx hb d_MA_doItem_47 (lv_at hl 1 rfl) ?_
  refine r_getN hx hb hC hP i_TE (11 + 4 * p) (by omega) (sh_T G _ hp) rfl 0 (by decide) k_MA_133 rfl d_MA_doItem_49 ?_
  refine lv_iload_n hx hb d_MA_doItem_52 rfl (lv_at hl 5 rfl) ?_
  refine r_ild hx hb hC hP (12 + 4 * p) (by omega) (sh_T1 G _ hp) i rfl (by omega) (by decide) d_MA_doItem_53 ?_
  rw [show (su S 1 5 (nI (gst s.1 + 1))) (12 + 4 * p) i = S (12 + 4 * p) i from by rw [su_cell _ _ _ (by omega)]]
  rw [show S (12 + 4 * p) i = 8 from (((hok.1 p hp).2.2 i hi).1.trans hop)]
  refine lv_tableIn (off := 155) (tgt := 209) hx hb d_MA_doItem_54 (by decide) (by decide) (by decide) (by decide) ?_
  refine lv_aload_n hx hb d_MA_doItem_209 rfl (lv_at hl 3 rfl) ?_
  refine lv_aload_n hx hb d_MA_doItem_210 rfl (lv_at hl 2 rfl) ?_
  refine lv_iload hx hb d_MA_doItem_211 (lv_at hl 0 rfl) ?_
  refine lv_aload_n hx hb d_MA_doItem_213 rfl (lv_at hl 2 rfl) ?_
  refine r_getN hx hb hC hP i_FR (27 + 2 * q) (by omega) (sh_F G _ hq) rfl 4 (by decide) k_MA_154 rfl d_MA_doItem_214 ?_
  rw [show (su S 1 5 (nI (gst s.1 + 1))) (27 + 2 * q) 4 = S (27 + 2 * q) 4 from by rw [su_cell _ _ _ (by omega)]]
  rw [show S (27 + 2 * q) 4 = nI c - 1 from hok.2.2.1.2.2.1]
  refine r_e (post := fun e S1 => e = 4 ∧ S1 = mRaise (su S 1 5 (nI (gst s.1 + 1))) (gnf s.1) q (ar (32 * p + i)) (nI c - 1)) hC hS (r_runV (np := 3) (As := [.ref (gA G (27 + 2 * q)), .int (ar (32 * p + i)), .int (nI c - 1)]) (rest := []) hx hb hml hC hP hS (by decide) rfl rfl (m_MA_raise l G (su S 1 5 (nI (gst s.1 + 1))) (gnf s.1) q (by have h1 := hok.2.2.2.1; omega) hq ((su_k _ _ (by omega)).trans hok.2.1.1.2.2.2.2.2.2.1) (ar (32 * p + i)) (nI c - 1)) l_MA_99 im_MA_raise se_MA_raise in_MA c_MA_raise_in (by decide +kernel) ⟨by simp only [rmF]; omega, by simp only [rmF]; omega⟩ rfl hl.1 (Nat.le_of_ble_eq_true rfl) d_MA_doItem_217 ⟨Nat.le_refl _, Nat.le_refl _⟩) (fun i_217 S_217 H locs hi_217 hw hP hS => ?_)
  obtain ⟨rfl, hSe⟩ := hw
  rw [hSe] at hP
  exact e_e (post := fun e S1 => BlkP S S1 q p c (gnf s.1) e (sI op ar E sz (sB op ar E sz F) q c (32 * p + i) s)) hx hb hr hlk hC hP hS d_MA_doItem_220 (by decide) (by unfold sI; rw [if_neg hlt]; unfold sItem; rw [hop, if_neg (by decide), if_neg (by decide), if_neg (by decide), if_neg (by decide), if_neg (by decide), if_neg (by decide), if_neg (by decide), if_neg (by decide), if_pos rfl]; exact (blk_raise hok0 hq hsl _ (c0 := c) hok.2.2.2.2.1).pre hkb0)

set_option maxHeartbeats 4000000 in
set_option maxRecDepth 100000 in
theorem m_MA_doItem_times (l : Launch) (G : WG) (S : SS) (op ar : Nat → Int32) (E sz : Nat → Nat) (F q p c i : Nat) (s : SG) (hq : q < 6) (hp : p < 4) (hi : i < sz p) (hok : OKs S op ar E sz q p c s) (hlt : ¬ 300 ≤ gst s.1) (hop : op (32 * p + i) = 3) (h : Nat) (hB : DoB l G op ar E sz F h q p i) (kk : Nat) (hkk : kk < 100) (har : ar (32 * p + i) = nI kk) (hh : Nat) (hhh : (h + 3) ≤ hh) : Ce l y_MA_doItem b_MA_doItem 6 hh G [.ref (gA G 1), .int (nI q), .int (nI i)] S (fun e S1 => BlkP S S1 q p c (gnf s.1) e (sI op ar E sz (sB op ar E sz F) q c (32 * p + i) s)) := by
  have hst3 := hok.2.1.1.2.1
  have hpr := hok.2.2.1.1
  have hz32 := (hok.1 p hp).2.1
  have hok0 := hok.stp hq hlt
  have hsl := stp_sl hok
  have hkb0 := stp_kb S q (nI (gst s.1 + 1))
  refine mk l (by decide +kernel) (Nat.le_of_ble_eq_true rfl) ?_
  intro pp_ ee_ ss_ mm_ be_ me_ co_ ls hx hb hr hlk hml hC hP hS hl
  have hl : lv_has ls 6 [(0, .ref (gA G 1)), (1, .int (nI q)), (2, .int (nI i))] := hl
  refine lv_aload_n hx hb d_MA_doItem_0 rfl (lv_at hl 0 rfl) ?_
  refine r_get hx hb hC hP i_MA (1) (by decide) rfl rfl 5 (by decide) l_MA_56 rfl d_MA_doItem_1 ?_
  rw [show S 1 5 = nI (gst s.1) from hok.2.1.1.1]
  refine lv_sipush (v := 300) hx hb d_MA_doItem_4 (by decide) ?_
  refine lv_icmp_lt (tgt := 14) hx hb d_MA_doItem_7 (by decide) (fun c_7 => ?_) (fun c_7 => absurd (show gst s.1 < 300 by omega) (fun h => c_7 ((q_lt (a := gst s.1) (b := 300) rfl rfl (by omega) (by omega)).mpr h)))
  refine lv_aload_n hx hb d_MA_doItem_14 rfl (lv_at hl 0 rfl) ?_
  refine lv_dup hx hb d_MA_doItem_15 rfl ?_
  refine r_get hx hb hC hP i_MA (1) (by decide) rfl rfl 5 (by decide) l_MA_56 rfl d_MA_doItem_16 ?_
  rw [show S 1 5 = nI (gst s.1) from hok.2.1.1.1]
  refine lv_iconst (v := 1) hx hb d_MA_doItem_19 (by decide) ?_
  refine lv_iadd hx hb d_MA_doItem_20 ?_
  rw [show (nI (gst s.1)) + 1 = nI (gst s.1 + 1) from nI_1 _]
  refine r_put hx hb hC hP hS i_MA t_MA t_MA_ok n_MA (1) (by decide) rfl rfl 5 (by decide) l_MA_56 rfl rfl rfl (Nat.le_of_ble_eq_true rfl) d_MA_doItem_21 (fun H locs hP hS => ?_)
  refine lv_aload_n hx hb d_MA_doItem_24 rfl (lv_at hl 0 rfl) ?_
  refine r_get hx hb hC hP i_MA (1) (by decide) rfl rfl 1 (by decide) l_MA_19 rfl d_MA_doItem_25 ?_
  refine lv_iload_n hx hb d_MA_doItem_28 rfl (lv_at hl 1 rfl) ?_
  refine r_frame hx hb hC hP q rfl (by omega) d_MA_doItem_29 ?_
  refine lv_astore_n (lv' := [(3, .ref (gA G (27 + 2 * q))), (0, .ref (gA G 1)), (1, .int (nI q)), (2, .int (nI i))]) hx hb d_MA_doItem_30 rfl hl (by decide) rfl (fun ls hl => ?_)
  refine lv_aload_n hx hb d_MA_doItem_31 rfl (lv_at hl 1 rfl) ?_
  refine lv_iload_n hx hb d_MA_doItem_32 rfl (lv_at hl 2 rfl) ?_
  refine r_r (post := fun i S1 => i = 11 + 4 * p ∧ S1 = su S 1 5 (nI (gst s.1 + 1))) hC hS (r_runV (np := 1) (As := [.int (nI q)]) (rest := []) hx hb hml hC hP hS (by decide) rfl rfl (m_MA_textOf l G (su S 1 5 (nI (gst s.1 + 1))) q p hq hp ((su_k _ _ (by omega)).trans hpr)) l_MA_113 im_MA_textOf se_MA_textOf in_MA c_MA_textOf_in (by decide +kernel) ⟨by simp only [rmF]; omega, by simp only [rmF]; omega⟩ rfl hl.1 (Nat.le_of_ble_eq_true rfl) d_MA_doItem_33 ⟨Nat.le_refl _, Nat.le_refl _⟩) (fun i_33 S_33 H locs hw hP hS => ?_)
  obtain ⟨rfl, hSe⟩ := hw
  rw [hSe] at hP
  refine lv_astore (lv' := [(4, .ref (gA G (11 + 4 * p))), (3, .ref (gA G (27 + 2 * q))), (0, .ref (gA G 1)), (1, .int (nI q)), (2, .int (nI i))]) hx hb d_MA_doItem_36 hl (by decide) rfl (fun ls hl => ?_)
  refine lv_aload hx hb d_MA_doItem_38 (lv_at hl 0 rfl) ?_
  refine r_getN hx hb hC hP i_TE (11 + 4 * p) (by omega) (sh_T G _ hp) rfl 1 (by decide) k_MA_130 rfl d_MA_doItem_40 ?_
  refine lv_iload_n hx hb d_MA_doItem_43 rfl (lv_at hl 4 rfl) ?_
  refine r_ild hx hb hC hP (13 + 4 * p) (by omega) (sh_T2 G _ hp) i rfl (by omega) (by decide) d_MA_doItem_44 ?_
  rw [show (su S 1 5 (nI (gst s.1 + 1))) (13 + 4 * p) i = S (13 + 4 * p) i from by rw [su_cell _ _ _ (by omega)]]
  rw [show S (13 + 4 * p) i = nI kk from (((hok.1 p hp).2.2 i hi).2.1.trans har)]
  refine lv_istore (lv' := [(5, .int (nI kk)), (4, .ref (gA G (11 + 4 * p))), (3, .ref (gA G (27 + 2 * q))), (0, .ref (gA G 1)), (1, .int (nI q)), (2, .int (nI i))]) hx hb d_MA_doItem_45 hl (by decide) rfl (fun ls hl => ?_)
  refine lv_aload hx hb d_MA_doItem_47 (lv_at hl 1 rfl) ?_
  refine r_getN hx hb hC hP i_TE (11 + 4 * p) (by omega) (sh_T G _ hp) rfl 0 (by decide) k_MA_133 rfl d_MA_doItem_49 ?_
  refine lv_iload_n hx hb d_MA_doItem_52 rfl (lv_at hl 5 rfl) ?_
  refine r_ild hx hb hC hP (12 + 4 * p) (by omega) (sh_T1 G _ hp) i rfl (by omega) (by decide) d_MA_doItem_53 ?_
  rw [show (su S 1 5 (nI (gst s.1 + 1))) (12 + 4 * p) i = S (12 + 4 * p) i from by rw [su_cell _ _ _ (by omega)]]
  rw [show S (12 + 4 * p) i = 3 from (((hok.1 p hp).2.2 i hi).1.trans hop)]
  refine lv_tableIn (off := 114) (tgt := 168) hx hb d_MA_doItem_54 (by decide) (by decide) (by decide) (by decide) ?_
  refine lv_aload_n hx hb d_MA_doItem_168 rfl (lv_at hl 3 rfl) ?_
  refine lv_iload_n hx hb d_MA_doItem_169 rfl (lv_at hl 4 rfl) ?_
  refine lv_iload_n hx hb d_MA_doItem_170 rfl (lv_at hl 5 rfl) ?_
  refine lv_iload hx hb d_MA_doItem_171 (lv_at hl 0 rfl) ?_
  refine r_e (post := fun e S1 => BlkP (su S 1 5 (nI (gst s.1 + 1))) S1 q p c (gnf s.1) e (sTimes (sB op ar E sz F q c (32 * p + i + 1)) kk (gStep s.1, s.2.1, s.2.2))) hC hS (r_runV (np := 3) (As := [.int (nI q), .int (nI i), .int (nI kk)]) (rest := []) hx hb hml hC hP hS (by decide) rfl rfl (m_MA_doTimes l G (su S 1 5 (nI (gst s.1 + 1))) op ar E sz F h q p c i (gStep s.1, s.2.1, s.2.2) hq hp hok0 hB kk hkk) l_MA_144 im_MA_doTimes se_MA_doTimes in_MA c_MA_doTimes_in (by decide +kernel) ⟨by simp only [rmF]; omega, by simp only [rmF]; omega⟩ rfl hl.1 (Nat.le_of_ble_eq_true rfl) d_MA_doItem_173 ⟨Nat.le_refl _, Nat.le_refl _⟩) (fun i_173 S_173 H locs hi_173 hw hP hS => ?_)
  have hw_173 := hw
  exact e_e (post := fun e S1 => BlkP S S1 q p c (gnf s.1) e (sI op ar E sz (sB op ar E sz F) q c (32 * p + i) s)) hx hb hr hlk hC hP hS d_MA_doItem_176 hi_173 (by unfold sI; rw [if_neg hlt]; unfold sItem; rw [hop, if_neg (by decide), if_neg (by decide), if_neg (by decide), if_pos rfl]; rw [har, nI_clamp (show kk < 2 ^ 31 by omega)]; exact hw_173.pre hkb0)

set_option maxHeartbeats 4000000 in
set_option maxRecDepth 100000 in
theorem m_MA_doItem_try (l : Launch) (G : WG) (S : SS) (op ar : Nat → Int32) (E sz : Nat → Nat) (F q p c i : Nat) (s : SG) (hq : q < 6) (hp : p < 4) (hi : i < sz p) (hok : OKs S op ar E sz q p c s) (hlt : ¬ 300 ≤ gst s.1) (hop : op (32 * p + i) = 9) (h : Nat) (hB : DoB l G op ar E sz F h q p i) (hlk9 : lkOK (ar (32 * p + i))) (hpt : ∀ j, j < (tNc ar (32 * p + i)) + (if (tLa ar (32 * p + i)) = true then 1 else 0) → 32 * p ≤ PT E (32 * p + i) j ∧ PT E (32 * p + i) j < 32 * p + sz p) (hBc : ∀ j, j < (tNc ar (32 * p + i)) → DoB l G op ar E sz F h q p (PT E (32 * p + i) j - 32 * p)) (hBl : (tLa ar (32 * p + i)) = true → DoB l G op ar E sz F h q p (PT E (32 * p + i) (tNc ar (32 * p + i)) - 32 * p)) (hh : Nat) (hhh : (h + 5) ≤ hh) : Ce l y_MA_doItem b_MA_doItem 6 hh G [.ref (gA G 1), .int (nI q), .int (nI i)] S (fun e S1 => BlkP S S1 q p c (gnf s.1) e (sI op ar E sz (sB op ar E sz F) q c (32 * p + i) s)) := by
  have hst3 := hok.2.1.1.2.1
  have hpr := hok.2.2.1.1
  have hz32 := (hok.1 p hp).2.1
  have hok0 := hok.stp hq hlt
  have hsl := stp_sl hok
  have hkb0 := stp_kb S q (nI (gst s.1 + 1))
  refine mk l (by decide +kernel) (Nat.le_of_ble_eq_true rfl) ?_
  intro pp_ ee_ ss_ mm_ be_ me_ co_ ls hx hb hr hlk hml hC hP hS hl
  have hl : lv_has ls 6 [(0, .ref (gA G 1)), (1, .int (nI q)), (2, .int (nI i))] := hl
  refine lv_aload_n hx hb d_MA_doItem_0 rfl (lv_at hl 0 rfl) ?_
  refine r_get hx hb hC hP i_MA (1) (by decide) rfl rfl 5 (by decide) l_MA_56 rfl d_MA_doItem_1 ?_
  rw [show S 1 5 = nI (gst s.1) from hok.2.1.1.1]
  refine lv_sipush (v := 300) hx hb d_MA_doItem_4 (by decide) ?_
  refine lv_icmp_lt (tgt := 14) hx hb d_MA_doItem_7 (by decide) (fun c_7 => ?_) (fun c_7 => absurd (show gst s.1 < 300 by omega) (fun h => c_7 ((q_lt (a := gst s.1) (b := 300) rfl rfl (by omega) (by omega)).mpr h)))
  refine lv_aload_n hx hb d_MA_doItem_14 rfl (lv_at hl 0 rfl) ?_
  refine lv_dup hx hb d_MA_doItem_15 rfl ?_
  refine r_get hx hb hC hP i_MA (1) (by decide) rfl rfl 5 (by decide) l_MA_56 rfl d_MA_doItem_16 ?_
  rw [show S 1 5 = nI (gst s.1) from hok.2.1.1.1]
  refine lv_iconst (v := 1) hx hb d_MA_doItem_19 (by decide) ?_
  refine lv_iadd hx hb d_MA_doItem_20 ?_
  rw [show (nI (gst s.1)) + 1 = nI (gst s.1 + 1) from nI_1 _]
  refine r_put hx hb hC hP hS i_MA t_MA t_MA_ok n_MA (1) (by decide) rfl rfl 5 (by decide) l_MA_56 rfl rfl rfl (Nat.le_of_ble_eq_true rfl) d_MA_doItem_21 (fun H locs hP hS => ?_)
  refine lv_aload_n hx hb d_MA_doItem_24 rfl (lv_at hl 0 rfl) ?_
  refine r_get hx hb hC hP i_MA (1) (by decide) rfl rfl 1 (by decide) l_MA_19 rfl d_MA_doItem_25 ?_
  refine lv_iload_n hx hb d_MA_doItem_28 rfl (lv_at hl 1 rfl) ?_
  refine r_frame hx hb hC hP q rfl (by omega) d_MA_doItem_29 ?_
  refine lv_astore_n (lv' := [(3, .ref (gA G (27 + 2 * q))), (0, .ref (gA G 1)), (1, .int (nI q)), (2, .int (nI i))]) hx hb d_MA_doItem_30 rfl hl (by decide) rfl (fun ls hl => ?_)
  refine lv_aload_n hx hb d_MA_doItem_31 rfl (lv_at hl 1 rfl) ?_
  refine lv_iload_n hx hb d_MA_doItem_32 rfl (lv_at hl 2 rfl) ?_
  refine r_r (post := fun i S1 => i = 11 + 4 * p ∧ S1 = su S 1 5 (nI (gst s.1 + 1))) hC hS (r_runV (np := 1) (As := [.int (nI q)]) (rest := []) hx hb hml hC hP hS (by decide) rfl rfl (m_MA_textOf l G (su S 1 5 (nI (gst s.1 + 1))) q p hq hp ((su_k _ _ (by omega)).trans hpr)) l_MA_113 im_MA_textOf se_MA_textOf in_MA c_MA_textOf_in (by decide +kernel) ⟨by simp only [rmF]; omega, by simp only [rmF]; omega⟩ rfl hl.1 (Nat.le_of_ble_eq_true rfl) d_MA_doItem_33 ⟨Nat.le_refl _, Nat.le_refl _⟩) (fun i_33 S_33 H locs hw hP hS => ?_)
  obtain ⟨rfl, hSe⟩ := hw
  rw [hSe] at hP
  refine lv_astore (lv' := [(4, .ref (gA G (11 + 4 * p))), (3, .ref (gA G (27 + 2 * q))), (0, .ref (gA G 1)), (1, .int (nI q)), (2, .int (nI i))]) hx hb d_MA_doItem_36 hl (by decide) rfl (fun ls hl => ?_)
  refine lv_aload hx hb d_MA_doItem_38 (lv_at hl 0 rfl) ?_
  refine r_getN hx hb hC hP i_TE (11 + 4 * p) (by omega) (sh_T G _ hp) rfl 1 (by decide) k_MA_130 rfl d_MA_doItem_40 ?_
  refine lv_iload_n hx hb d_MA_doItem_43 rfl (lv_at hl 4 rfl) ?_
  refine r_ild hx hb hC hP (13 + 4 * p) (by omega) (sh_T2 G _ hp) i rfl (by omega) (by decide) d_MA_doItem_44 ?_
  rw [show (su S 1 5 (nI (gst s.1 + 1))) (13 + 4 * p) i = S (13 + 4 * p) i from by rw [su_cell _ _ _ (by omega)]]
  rw [show S (13 + 4 * p) i = ar (32 * p + i) from ((hok.1 p hp).2.2 i hi).2.1]
  refine lv_istore (lv' := [(5, .int (ar (32 * p + i))), (4, .ref (gA G (11 + 4 * p))), (3, .ref (gA G (27 + 2 * q))), (0, .ref (gA G 1)), (1, .int (nI q)), (2, .int (nI i))]) hx hb d_MA_doItem_45 hl (by decide) rfl (fun ls hl => ?_)
  refine lv_aload hx hb d_MA_doItem_47 (lv_at hl 1 rfl) ?_
  refine r_getN hx hb hC hP i_TE (11 + 4 * p) (by omega) (sh_T G _ hp) rfl 0 (by decide) k_MA_133 rfl d_MA_doItem_49 ?_
  refine lv_iload_n hx hb d_MA_doItem_52 rfl (lv_at hl 5 rfl) ?_
  refine r_ild hx hb hC hP (12 + 4 * p) (by omega) (sh_T1 G _ hp) i rfl (by omega) (by decide) d_MA_doItem_53 ?_
  rw [show (su S 1 5 (nI (gst s.1 + 1))) (12 + 4 * p) i = S (12 + 4 * p) i from by rw [su_cell _ _ _ (by omega)]]
  rw [show S (12 + 4 * p) i = 9 from (((hok.1 p hp).2.2 i hi).1.trans hop)]
  refine lv_tableIn (off := 167) (tgt := 221) hx hb d_MA_doItem_54 (by decide) (by decide) (by decide) (by decide) ?_
  refine lv_aload_n hx hb d_MA_doItem_221 rfl (lv_at hl 3 rfl) ?_
  refine lv_iload_n hx hb d_MA_doItem_222 rfl (lv_at hl 4 rfl) ?_
  refine lv_iload_n hx hb d_MA_doItem_223 rfl (lv_at hl 5 rfl) ?_
  refine r_e (post := fun e S1 => BlkP (su S 1 5 (nI (gst s.1 + 1))) S1 q p c (gnf s.1) e (sTry ar E (sB op ar E sz F q) c (32 * p + i) (gStep s.1, s.2.1, s.2.2))) hC hS (r_runV (np := 2) (As := [.int (nI q), .int (nI i)]) (rest := []) hx hb hml hC hP hS (by decide) rfl rfl (m_MA_doTry l G (su S 1 5 (nI (gst s.1 + 1))) op ar E sz F h q p c i (gStep s.1, s.2.1, s.2.2) hq hp hok0 hi hop hlk9 hpt hB hBc hBl) l_MA_157 im_MA_doTry se_MA_doTry in_MA c_MA_doTry_in (by decide +kernel) ⟨by simp only [rmF]; omega, by simp only [rmF]; omega⟩ rfl hl.1 (Nat.le_of_ble_eq_true rfl) d_MA_doItem_224 ⟨Nat.le_refl _, Nat.le_refl _⟩) (fun i_224 S_224 H locs hi_224 hw hP hS => ?_)
  have hw_224 := hw
  exact e_e (post := fun e S1 => BlkP S S1 q p c (gnf s.1) e (sI op ar E sz (sB op ar E sz F) q c (32 * p + i) s)) hx hb hr hlk hC hP hS d_MA_doItem_227 hi_224 (by unfold sI; rw [if_neg hlt]; unfold sItem; rw [hop, if_neg (by decide), if_neg (by decide), if_neg (by decide), if_neg (by decide), if_neg (by decide), if_neg (by decide), if_neg (by decide), if_neg (by decide), if_neg (by decide), if_pos rfl]; exact hw_224.pre hkb0)

set_option maxHeartbeats 4000000 in
set_option maxRecDepth 100000 in
theorem m_MA_doItem_lock (l : Launch) (G : WG) (S : SS) (op ar : Nat → Int32) (E sz : Nat → Nat) (F q p c i : Nat) (s : SG) (hq : q < 6) (hp : p < 4) (hi : i < sz p) (hok : OKs S op ar E sz q p c s) (hlt : ¬ 300 ≤ gst s.1) (hop : op (32 * p + i) = 10) (h : Nat) (hB : DoB l G op ar E sz F h q p i) (lo : Nat) (hlo : lo < 3) (har : ar (32 * p + i) = nI lo) (hh : Nat) (hhh : (h + 4) ≤ hh) : Ce l y_MA_doItem b_MA_doItem 6 hh G [.ref (gA G 1), .int (nI q), .int (nI i)] S (fun e S1 => BlkP S S1 q p c (gnf s.1) e (sI op ar E sz (sB op ar E sz F) q c (32 * p + i) s)) := by
  have hst3 := hok.2.1.1.2.1
  have hpr := hok.2.2.1.1
  have hz32 := (hok.1 p hp).2.1
  have hok0 := hok.stp hq hlt
  have hsl := stp_sl hok
  have hkb0 := stp_kb S q (nI (gst s.1 + 1))
  refine mk l (by decide +kernel) (Nat.le_of_ble_eq_true rfl) ?_
  intro pp_ ee_ ss_ mm_ be_ me_ co_ ls hx hb hr hlk hml hC hP hS hl
  have hl : lv_has ls 6 [(0, .ref (gA G 1)), (1, .int (nI q)), (2, .int (nI i))] := hl
  refine lv_aload_n hx hb d_MA_doItem_0 rfl (lv_at hl 0 rfl) ?_
  refine r_get hx hb hC hP i_MA (1) (by decide) rfl rfl 5 (by decide) l_MA_56 rfl d_MA_doItem_1 ?_
  rw [show S 1 5 = nI (gst s.1) from hok.2.1.1.1]
  refine lv_sipush (v := 300) hx hb d_MA_doItem_4 (by decide) ?_
  refine lv_icmp_lt (tgt := 14) hx hb d_MA_doItem_7 (by decide) (fun c_7 => ?_) (fun c_7 => absurd (show gst s.1 < 300 by omega) (fun h => c_7 ((q_lt (a := gst s.1) (b := 300) rfl rfl (by omega) (by omega)).mpr h)))
  refine lv_aload_n hx hb d_MA_doItem_14 rfl (lv_at hl 0 rfl) ?_
  refine lv_dup hx hb d_MA_doItem_15 rfl ?_
  refine r_get hx hb hC hP i_MA (1) (by decide) rfl rfl 5 (by decide) l_MA_56 rfl d_MA_doItem_16 ?_
  rw [show S 1 5 = nI (gst s.1) from hok.2.1.1.1]
  refine lv_iconst (v := 1) hx hb d_MA_doItem_19 (by decide) ?_
  refine lv_iadd hx hb d_MA_doItem_20 ?_
  rw [show (nI (gst s.1)) + 1 = nI (gst s.1 + 1) from nI_1 _]
  refine r_put hx hb hC hP hS i_MA t_MA t_MA_ok n_MA (1) (by decide) rfl rfl 5 (by decide) l_MA_56 rfl rfl rfl (Nat.le_of_ble_eq_true rfl) d_MA_doItem_21 (fun H locs hP hS => ?_)
  refine lv_aload_n hx hb d_MA_doItem_24 rfl (lv_at hl 0 rfl) ?_
  refine r_get hx hb hC hP i_MA (1) (by decide) rfl rfl 1 (by decide) l_MA_19 rfl d_MA_doItem_25 ?_
  refine lv_iload_n hx hb d_MA_doItem_28 rfl (lv_at hl 1 rfl) ?_
  refine r_frame hx hb hC hP q rfl (by omega) d_MA_doItem_29 ?_
  refine lv_astore_n (lv' := [(3, .ref (gA G (27 + 2 * q))), (0, .ref (gA G 1)), (1, .int (nI q)), (2, .int (nI i))]) hx hb d_MA_doItem_30 rfl hl (by decide) rfl (fun ls hl => ?_)
  refine lv_aload_n hx hb d_MA_doItem_31 rfl (lv_at hl 1 rfl) ?_
  refine lv_iload_n hx hb d_MA_doItem_32 rfl (lv_at hl 2 rfl) ?_
  refine r_r (post := fun i S1 => i = 11 + 4 * p ∧ S1 = su S 1 5 (nI (gst s.1 + 1))) hC hS (r_runV (np := 1) (As := [.int (nI q)]) (rest := []) hx hb hml hC hP hS (by decide) rfl rfl (m_MA_textOf l G (su S 1 5 (nI (gst s.1 + 1))) q p hq hp ((su_k _ _ (by omega)).trans hpr)) l_MA_113 im_MA_textOf se_MA_textOf in_MA c_MA_textOf_in (by decide +kernel) ⟨by simp only [rmF]; omega, by simp only [rmF]; omega⟩ rfl hl.1 (Nat.le_of_ble_eq_true rfl) d_MA_doItem_33 ⟨Nat.le_refl _, Nat.le_refl _⟩) (fun i_33 S_33 H locs hw hP hS => ?_)
  obtain ⟨rfl, hSe⟩ := hw
  rw [hSe] at hP
  refine lv_astore (lv' := [(4, .ref (gA G (11 + 4 * p))), (3, .ref (gA G (27 + 2 * q))), (0, .ref (gA G 1)), (1, .int (nI q)), (2, .int (nI i))]) hx hb d_MA_doItem_36 hl (by decide) rfl (fun ls hl => ?_)
  refine lv_aload hx hb d_MA_doItem_38 (lv_at hl 0 rfl) ?_
  refine r_getN hx hb hC hP i_TE (11 + 4 * p) (by omega) (sh_T G _ hp) rfl 1 (by decide) k_MA_130 rfl d_MA_doItem_40 ?_
  refine lv_iload_n hx hb d_MA_doItem_43 rfl (lv_at hl 4 rfl) ?_
  refine r_ild hx hb hC hP (13 + 4 * p) (by omega) (sh_T2 G _ hp) i rfl (by omega) (by decide) d_MA_doItem_44 ?_
  rw [show (su S 1 5 (nI (gst s.1 + 1))) (13 + 4 * p) i = S (13 + 4 * p) i from by rw [su_cell _ _ _ (by omega)]]
  rw [show S (13 + 4 * p) i = nI lo from (((hok.1 p hp).2.2 i hi).2.1.trans har)]
  refine lv_istore (lv' := [(5, .int (nI lo)), (4, .ref (gA G (11 + 4 * p))), (3, .ref (gA G (27 + 2 * q))), (0, .ref (gA G 1)), (1, .int (nI q)), (2, .int (nI i))]) hx hb d_MA_doItem_45 hl (by decide) rfl (fun ls hl => ?_)
  refine lv_aload hx hb d_MA_doItem_47 (lv_at hl 1 rfl) ?_
  refine r_getN hx hb hC hP i_TE (11 + 4 * p) (by omega) (sh_T G _ hp) rfl 0 (by decide) k_MA_133 rfl d_MA_doItem_49 ?_
  refine lv_iload_n hx hb d_MA_doItem_52 rfl (lv_at hl 5 rfl) ?_
  refine r_ild hx hb hC hP (12 + 4 * p) (by omega) (sh_T1 G _ hp) i rfl (by omega) (by decide) d_MA_doItem_53 ?_
  rw [show (su S 1 5 (nI (gst s.1 + 1))) (12 + 4 * p) i = S (12 + 4 * p) i from by rw [su_cell _ _ _ (by omega)]]
  rw [show S (12 + 4 * p) i = 10 from (((hok.1 p hp).2.2 i hi).1.trans hop)]
  refine lv_tableIn (off := 174) (tgt := 228) hx hb d_MA_doItem_54 (by decide) (by decide) (by decide) (by decide) ?_
  refine lv_aload_n hx hb d_MA_doItem_228 rfl (lv_at hl 3 rfl) ?_
  refine lv_iload_n hx hb d_MA_doItem_229 rfl (lv_at hl 4 rfl) ?_
  refine lv_iload_n hx hb d_MA_doItem_230 rfl (lv_at hl 5 rfl) ?_
  refine lv_iload hx hb d_MA_doItem_231 (lv_at hl 0 rfl) ?_
  refine r_e (post := fun e S1 => BlkP (su S 1 5 (nI (gst s.1 + 1))) S1 q p c (gnf s.1) e (rLk (sB op ar E sz F q c (32 * p + i + 1) (gHold (gStep s.1) lo, s.2.1, s.2.2)) lo)) hC hS (r_runV (np := 3) (As := [.int (nI q), .int (nI i), .int (nI lo)]) (rest := []) hx hb hml hC hP hS (by decide) rfl rfl (m_MA_doLock l G (su S 1 5 (nI (gst s.1 + 1))) op ar E sz F h q p c i (gStep s.1, s.2.1, s.2.2) hq hp hok0 hB lo hlo) l_MA_160 im_MA_doLock se_MA_doLock in_MA c_MA_doLock_in (by decide +kernel) ⟨by simp only [rmF]; omega, by simp only [rmF]; omega⟩ rfl hl.1 (Nat.le_of_ble_eq_true rfl) d_MA_doItem_233 ⟨Nat.le_refl _, Nat.le_refl _⟩) (fun i_233 S_233 H locs hi_233 hw hP hS => ?_)
  have hw_233 := hw
  exact e_e (post := fun e S1 => BlkP S S1 q p c (gnf s.1) e (sI op ar E sz (sB op ar E sz F) q c (32 * p + i) s)) hx hb hr hlk hC hP hS d_MA_doItem_236 hi_233 (by unfold sI; rw [if_neg hlt]; unfold sItem; rw [hop, if_neg (by decide), if_neg (by decide), if_neg (by decide), if_neg (by decide), if_neg (by decide), if_neg (by decide), if_neg (by decide), if_neg (by decide), if_neg (by decide), if_neg (by decide), if_pos rfl]; rw [har, nI_clamp (show lo < 2 ^ 31 by omega)]; exact hw_233.pre hkb0)

set_option maxHeartbeats 4000000 in
set_option maxRecDepth 100000 in
theorem m_MA_doItem_enter (l : Launch) (G : WG) (S : SS) (op ar : Nat → Int32) (E sz : Nat → Nat) (F q p c i : Nat) (s : SG) (hq : q < 6) (hp : p < 4) (hi : i < sz p) (hok : OKs S op ar E sz q p c s) (hlt : ¬ 300 ≤ gst s.1) (hop : op (32 * p + i) = 11) (lo : Nat) (hlo : lo < 3) (har : ar (32 * p + i) = nI lo) (hh : Nat) (hhh : 4 ≤ hh) : Ce l y_MA_doItem b_MA_doItem 6 hh G [.ref (gA G 1), .int (nI q), .int (nI i)] S (fun e S1 => BlkP S S1 q p c (gnf s.1) e (sI op ar E sz (sB op ar E sz F) q c (32 * p + i) s)) := by
  have hst3 := hok.2.1.1.2.1
  have hpr := hok.2.2.1.1
  have hz32 := (hok.1 p hp).2.1
  have hok0 := hok.stp hq hlt
  have hsl := stp_sl hok
  have hkb0 := stp_kb S q (nI (gst s.1 + 1))
  refine mk l (by decide +kernel) (Nat.le_of_ble_eq_true rfl) ?_
  intro pp_ ee_ ss_ mm_ be_ me_ co_ ls hx hb hr hlk hml hC hP hS hl
  have hl : lv_has ls 6 [(0, .ref (gA G 1)), (1, .int (nI q)), (2, .int (nI i))] := hl
  refine lv_aload_n hx hb d_MA_doItem_0 rfl (lv_at hl 0 rfl) ?_
  refine r_get hx hb hC hP i_MA (1) (by decide) rfl rfl 5 (by decide) l_MA_56 rfl d_MA_doItem_1 ?_
  rw [show S 1 5 = nI (gst s.1) from hok.2.1.1.1]
  refine lv_sipush (v := 300) hx hb d_MA_doItem_4 (by decide) ?_
  refine lv_icmp_lt (tgt := 14) hx hb d_MA_doItem_7 (by decide) (fun c_7 => ?_) (fun c_7 => absurd (show gst s.1 < 300 by omega) (fun h => c_7 ((q_lt (a := gst s.1) (b := 300) rfl rfl (by omega) (by omega)).mpr h)))
  refine lv_aload_n hx hb d_MA_doItem_14 rfl (lv_at hl 0 rfl) ?_
  refine lv_dup hx hb d_MA_doItem_15 rfl ?_
  refine r_get hx hb hC hP i_MA (1) (by decide) rfl rfl 5 (by decide) l_MA_56 rfl d_MA_doItem_16 ?_
  rw [show S 1 5 = nI (gst s.1) from hok.2.1.1.1]
  refine lv_iconst (v := 1) hx hb d_MA_doItem_19 (by decide) ?_
  refine lv_iadd hx hb d_MA_doItem_20 ?_
  rw [show (nI (gst s.1)) + 1 = nI (gst s.1 + 1) from nI_1 _]
  refine r_put hx hb hC hP hS i_MA t_MA t_MA_ok n_MA (1) (by decide) rfl rfl 5 (by decide) l_MA_56 rfl rfl rfl (Nat.le_of_ble_eq_true rfl) d_MA_doItem_21 (fun H locs hP hS => ?_)
  refine lv_aload_n hx hb d_MA_doItem_24 rfl (lv_at hl 0 rfl) ?_
  refine r_get hx hb hC hP i_MA (1) (by decide) rfl rfl 1 (by decide) l_MA_19 rfl d_MA_doItem_25 ?_
  refine lv_iload_n hx hb d_MA_doItem_28 rfl (lv_at hl 1 rfl) ?_
  refine r_frame hx hb hC hP q rfl (by omega) d_MA_doItem_29 ?_
  refine lv_astore_n (lv' := [(3, .ref (gA G (27 + 2 * q))), (0, .ref (gA G 1)), (1, .int (nI q)), (2, .int (nI i))]) hx hb d_MA_doItem_30 rfl hl (by decide) rfl (fun ls hl => ?_)
  refine lv_aload_n hx hb d_MA_doItem_31 rfl (lv_at hl 1 rfl) ?_
  refine lv_iload_n hx hb d_MA_doItem_32 rfl (lv_at hl 2 rfl) ?_
  refine r_r (post := fun i S1 => i = 11 + 4 * p ∧ S1 = su S 1 5 (nI (gst s.1 + 1))) hC hS (r_runV (np := 1) (As := [.int (nI q)]) (rest := []) hx hb hml hC hP hS (by decide) rfl rfl (m_MA_textOf l G (su S 1 5 (nI (gst s.1 + 1))) q p hq hp ((su_k _ _ (by omega)).trans hpr)) l_MA_113 im_MA_textOf se_MA_textOf in_MA c_MA_textOf_in (by decide +kernel) ⟨by simp only [rmF]; omega, by simp only [rmF]; omega⟩ rfl hl.1 (Nat.le_of_ble_eq_true rfl) d_MA_doItem_33 ⟨Nat.le_refl _, Nat.le_refl _⟩) (fun i_33 S_33 H locs hw hP hS => ?_)
  obtain ⟨rfl, hSe⟩ := hw
  rw [hSe] at hP
  refine lv_astore (lv' := [(4, .ref (gA G (11 + 4 * p))), (3, .ref (gA G (27 + 2 * q))), (0, .ref (gA G 1)), (1, .int (nI q)), (2, .int (nI i))]) hx hb d_MA_doItem_36 hl (by decide) rfl (fun ls hl => ?_)
  refine lv_aload hx hb d_MA_doItem_38 (lv_at hl 0 rfl) ?_
  refine r_getN hx hb hC hP i_TE (11 + 4 * p) (by omega) (sh_T G _ hp) rfl 1 (by decide) k_MA_130 rfl d_MA_doItem_40 ?_
  refine lv_iload_n hx hb d_MA_doItem_43 rfl (lv_at hl 4 rfl) ?_
  refine r_ild hx hb hC hP (13 + 4 * p) (by omega) (sh_T2 G _ hp) i rfl (by omega) (by decide) d_MA_doItem_44 ?_
  rw [show (su S 1 5 (nI (gst s.1 + 1))) (13 + 4 * p) i = S (13 + 4 * p) i from by rw [su_cell _ _ _ (by omega)]]
  rw [show S (13 + 4 * p) i = nI lo from (((hok.1 p hp).2.2 i hi).2.1.trans har)]
  refine lv_istore (lv' := [(5, .int (nI lo)), (4, .ref (gA G (11 + 4 * p))), (3, .ref (gA G (27 + 2 * q))), (0, .ref (gA G 1)), (1, .int (nI q)), (2, .int (nI i))]) hx hb d_MA_doItem_45 hl (by decide) rfl (fun ls hl => ?_)
  refine lv_aload hx hb d_MA_doItem_47 (lv_at hl 1 rfl) ?_
  refine r_getN hx hb hC hP i_TE (11 + 4 * p) (by omega) (sh_T G _ hp) rfl 0 (by decide) k_MA_133 rfl d_MA_doItem_49 ?_
  refine lv_iload_n hx hb d_MA_doItem_52 rfl (lv_at hl 5 rfl) ?_
  refine r_ild hx hb hC hP (12 + 4 * p) (by omega) (sh_T1 G _ hp) i rfl (by omega) (by decide) d_MA_doItem_53 ?_
  rw [show (su S 1 5 (nI (gst s.1 + 1))) (12 + 4 * p) i = S (12 + 4 * p) i from by rw [su_cell _ _ _ (by omega)]]
  rw [show S (12 + 4 * p) i = 11 from (((hok.1 p hp).2.2 i hi).1.trans hop)]
  refine lv_tableIn (off := 183) (tgt := 237) hx hb d_MA_doItem_54 (by decide) (by decide) (by decide) (by decide) ?_
  refine lv_aload_n hx hb d_MA_doItem_237 rfl (lv_at hl 3 rfl) ?_
  refine lv_aload_n hx hb d_MA_doItem_238 rfl (lv_at hl 2 rfl) ?_
  refine lv_iload hx hb d_MA_doItem_239 (lv_at hl 0 rfl) ?_
  refine r_e (post := fun e S1 => e = 0 ∧ S1 = mEnter (su S 1 5 (nI (gst s.1 + 1))) q lo) hC hS (r_runV (np := 2) (As := [.ref (gA G (27 + 2 * q)), .int (nI lo)]) (rest := []) hx hb hml hC hP hS (by decide) rfl rfl (m_MA_doEnter l G (su S 1 5 (nI (gst s.1 + 1))) q lo hq hlo) l_MA_163 im_MA_doEnter se_MA_doEnter in_MA c_MA_doEnter_in (by decide +kernel) ⟨by simp only [rmF]; omega, by simp only [rmF]; omega⟩ rfl hl.1 (Nat.le_of_ble_eq_true rfl) d_MA_doItem_241 ⟨Nat.le_refl _, Nat.le_refl _⟩) (fun i_241 S_241 H locs hi_241 hw hP hS => ?_)
  obtain ⟨rfl, hSe⟩ := hw
  rw [hSe] at hP
  exact e_e (post := fun e S1 => BlkP S S1 q p c (gnf s.1) e (sI op ar E sz (sB op ar E sz F) q c (32 * p + i) s)) hx hb hr hlk hC hP hS d_MA_doItem_244 (by decide) (by unfold sI; rw [if_neg hlt]; unfold sItem; rw [hop, if_neg (by decide), if_neg (by decide), if_neg (by decide), if_neg (by decide), if_neg (by decide), if_neg (by decide), if_neg (by decide), if_neg (by decide), if_neg (by decide), if_neg (by decide), if_neg (by decide), if_pos rfl]; rw [har, nI_clamp (show lo < 2 ^ 31 by omega)]; exact BlkP.on (hok0.ent hq hlo (by have h1 := hok.2.2.2.2.2 lo hlo; show s.2.2 lo + 1 ≤ gst s.1 + 1; omega)) ((ent_kb _ hq lo).tr hkb0) (Nat.le_refl _))

theorem OKs.lea {S : SS} {op ar : Nat → Int32} {E sz : Nat → Nat} {q p c : Nat} {s : SG} (h : OKs S op ar E sz q p c s) (hq : q < 6) {l : Nat} (hl : l < 3) (hs : 0 < s.2.2 l) : OKs (mLeave S q l) op ar E sz q p c (gRel s.1 l 1, s.2.1, va_up s.2.2 l (s.2.2 l - 1)) := by
  have h0 : OKs (su S (28 + 2 * q) l (S (28 + 2 * q) l - 1)) op ar E sz q p c (s.1, s.2.1, va_up s.2.2 l (s.2.2 l - 1)) := by
    obtain ⟨h1, ⟨h2, h2'⟩, h3, h4⟩ := h
    refine ⟨h1.kb (q := q) (fun a b hab => su_k _ _ (by omega)), ⟨h2.mv (fun a b hab => su_k _ _ (by omega)), h2'.mv (fun a b hab => su_k _ _ (by omega))⟩, ⟨(su_k _ _ (by omega)).trans h3.1, (su_k _ _ (by omega)).trans h3.2.1, (su_k _ _ (by omega)).trans h3.2.2.1, fun l2 hl2 => ?_⟩, h4.1, h4.2.1, fun l2 hl2 => ?_⟩
    · show _ = nI (va_up s.2.2 l (s.2.2 l - 1) l2) ∧ va_up s.2.2 l (s.2.2 l - 1) l2 ≤ 300
      have h5 := (h3.2.2.2 l2 hl2).2
      by_cases e : l2 = l
      · subst e
        rw [su_same, va_up_self, (h3.2.2.2 l2 hl2).1, show (1 : Int32) = nI 1 from rfl, pk_sub (by omega)]
        exact ⟨rfl, by omega⟩
      · rw [su_k _ _ (by omega), va_up_ne _ _ e]
        exact h3.2.2.2 l2 hl2
    · show va_up s.2.2 l (s.2.2 l - 1) l2 ≤ gst s.1
      have h5 := h4.2.2 l2 hl2
      by_cases e : l2 = l
      · subst e
        rw [va_up_self]; omega
      · rw [va_up_ne _ _ e]; exact h5
  obtain ⟨h1, h2, h3, h4⟩ := h0
  exact ⟨h1.kb (lRel_kb _ q l 1), h2.rel hl 1, h3.mv (fun a b hab => by unfold mLeave lRel; rw [su_k _ _ (by omega), su_k _ _ (by omega)]), h4⟩
theorem lea_kb (S : SS) {q : Nat} (hq : q < 6) (l : Nat) : Kb q (mLeave S q l) S := fun a b hab => by
  unfold mLeave
  rw [lRel_kb _ q l 1 a b hab, su_k _ _ (by omega)]
set_option maxHeartbeats 4000000 in
set_option maxRecDepth 100000 in
theorem m_MA_doItem_leave0 (l : Launch) (G : WG) (S : SS) (op ar : Nat → Int32) (E sz : Nat → Nat) (F q p c i : Nat) (s : SG) (hq : q < 6) (hp : p < 4) (hi : i < sz p) (hok : OKs S op ar E sz q p c s) (hlt : ¬ 300 ≤ gst s.1) (hop : op (32 * p + i) = 12) (lo : Nat) (hlo : lo < 3) (har : ar (32 * p + i) = nI lo) (he0 : s.2.2 lo = 0) (hh : Nat) (hhh : 4 ≤ hh) : Ce l y_MA_doItem b_MA_doItem 6 hh G [.ref (gA G 1), .int (nI q), .int (nI i)] S (fun e S1 => BlkP S S1 q p c (gnf s.1) e (sI op ar E sz (sB op ar E sz F) q c (32 * p + i) s)) := by
  have hst3 := hok.2.1.1.2.1
  have hpr := hok.2.2.1.1
  have hz32 := (hok.1 p hp).2.1
  have hok0 := hok.stp hq hlt
  have hsl := stp_sl hok
  have hkb0 := stp_kb S q (nI (gst s.1 + 1))
  have hle0 : (su S 1 5 (nI (gst s.1 + 1))) (28 + 2 * q) lo ≤ 0 := by rw [(hok0.2.2.1.2.2.2 lo hlo).1]; show nI (s.2.2 lo) ≤ 0; rw [he0]; decide
  refine mk l (by decide +kernel) (Nat.le_of_ble_eq_true rfl) ?_
  intro pp_ ee_ ss_ mm_ be_ me_ co_ ls hx hb hr hlk hml hC hP hS hl
  have hl : lv_has ls 6 [(0, .ref (gA G 1)), (1, .int (nI q)), (2, .int (nI i))] := hl
  refine lv_aload_n hx hb d_MA_doItem_0 rfl (lv_at hl 0 rfl) ?_
  refine r_get hx hb hC hP i_MA (1) (by decide) rfl rfl 5 (by decide) l_MA_56 rfl d_MA_doItem_1 ?_
  rw [show S 1 5 = nI (gst s.1) from hok.2.1.1.1]
  refine lv_sipush (v := 300) hx hb d_MA_doItem_4 (by decide) ?_
  refine lv_icmp_lt (tgt := 14) hx hb d_MA_doItem_7 (by decide) (fun c_7 => ?_) (fun c_7 => absurd (show gst s.1 < 300 by omega) (fun h => c_7 ((q_lt (a := gst s.1) (b := 300) rfl rfl (by omega) (by omega)).mpr h)))
  refine lv_aload_n hx hb d_MA_doItem_14 rfl (lv_at hl 0 rfl) ?_
  refine lv_dup hx hb d_MA_doItem_15 rfl ?_
  refine r_get hx hb hC hP i_MA (1) (by decide) rfl rfl 5 (by decide) l_MA_56 rfl d_MA_doItem_16 ?_
  rw [show S 1 5 = nI (gst s.1) from hok.2.1.1.1]
  refine lv_iconst (v := 1) hx hb d_MA_doItem_19 (by decide) ?_
  refine lv_iadd hx hb d_MA_doItem_20 ?_
  rw [show (nI (gst s.1)) + 1 = nI (gst s.1 + 1) from nI_1 _]
  refine r_put hx hb hC hP hS i_MA t_MA t_MA_ok n_MA (1) (by decide) rfl rfl 5 (by decide) l_MA_56 rfl rfl rfl (Nat.le_of_ble_eq_true rfl) d_MA_doItem_21 (fun H locs hP hS => ?_)
  refine lv_aload_n hx hb d_MA_doItem_24 rfl (lv_at hl 0 rfl) ?_
  refine r_get hx hb hC hP i_MA (1) (by decide) rfl rfl 1 (by decide) l_MA_19 rfl d_MA_doItem_25 ?_
  refine lv_iload_n hx hb d_MA_doItem_28 rfl (lv_at hl 1 rfl) ?_
  refine r_frame hx hb hC hP q rfl (by omega) d_MA_doItem_29 ?_
  refine lv_astore_n (lv' := [(3, .ref (gA G (27 + 2 * q))), (0, .ref (gA G 1)), (1, .int (nI q)), (2, .int (nI i))]) hx hb d_MA_doItem_30 rfl hl (by decide) rfl (fun ls hl => ?_)
  refine lv_aload_n hx hb d_MA_doItem_31 rfl (lv_at hl 1 rfl) ?_
  refine lv_iload_n hx hb d_MA_doItem_32 rfl (lv_at hl 2 rfl) ?_
  refine r_r (post := fun i S1 => i = 11 + 4 * p ∧ S1 = su S 1 5 (nI (gst s.1 + 1))) hC hS (r_runV (np := 1) (As := [.int (nI q)]) (rest := []) hx hb hml hC hP hS (by decide) rfl rfl (m_MA_textOf l G (su S 1 5 (nI (gst s.1 + 1))) q p hq hp ((su_k _ _ (by omega)).trans hpr)) l_MA_113 im_MA_textOf se_MA_textOf in_MA c_MA_textOf_in (by decide +kernel) ⟨by simp only [rmF]; omega, by simp only [rmF]; omega⟩ rfl hl.1 (Nat.le_of_ble_eq_true rfl) d_MA_doItem_33 ⟨Nat.le_refl _, Nat.le_refl _⟩) (fun i_33 S_33 H locs hw hP hS => ?_)
  obtain ⟨rfl, hSe⟩ := hw
  rw [hSe] at hP
  refine lv_astore (lv' := [(4, .ref (gA G (11 + 4 * p))), (3, .ref (gA G (27 + 2 * q))), (0, .ref (gA G 1)), (1, .int (nI q)), (2, .int (nI i))]) hx hb d_MA_doItem_36 hl (by decide) rfl (fun ls hl => ?_)
  refine lv_aload hx hb d_MA_doItem_38 (lv_at hl 0 rfl) ?_
  refine r_getN hx hb hC hP i_TE (11 + 4 * p) (by omega) (sh_T G _ hp) rfl 1 (by decide) k_MA_130 rfl d_MA_doItem_40 ?_
  refine lv_iload_n hx hb d_MA_doItem_43 rfl (lv_at hl 4 rfl) ?_
  refine r_ild hx hb hC hP (13 + 4 * p) (by omega) (sh_T2 G _ hp) i rfl (by omega) (by decide) d_MA_doItem_44 ?_
  rw [show (su S 1 5 (nI (gst s.1 + 1))) (13 + 4 * p) i = S (13 + 4 * p) i from by rw [su_cell _ _ _ (by omega)]]
  rw [show S (13 + 4 * p) i = nI lo from (((hok.1 p hp).2.2 i hi).2.1.trans har)]
  refine lv_istore (lv' := [(5, .int (nI lo)), (4, .ref (gA G (11 + 4 * p))), (3, .ref (gA G (27 + 2 * q))), (0, .ref (gA G 1)), (1, .int (nI q)), (2, .int (nI i))]) hx hb d_MA_doItem_45 hl (by decide) rfl (fun ls hl => ?_)
  refine lv_aload hx hb d_MA_doItem_47 (lv_at hl 1 rfl) ?_
  refine r_getN hx hb hC hP i_TE (11 + 4 * p) (by omega) (sh_T G _ hp) rfl 0 (by decide) k_MA_133 rfl d_MA_doItem_49 ?_
  refine lv_iload_n hx hb d_MA_doItem_52 rfl (lv_at hl 5 rfl) ?_
  refine r_ild hx hb hC hP (12 + 4 * p) (by omega) (sh_T1 G _ hp) i rfl (by omega) (by decide) d_MA_doItem_53 ?_
  rw [show (su S 1 5 (nI (gst s.1 + 1))) (12 + 4 * p) i = S (12 + 4 * p) i from by rw [su_cell _ _ _ (by omega)]]
  rw [show S (12 + 4 * p) i = 12 from (((hok.1 p hp).2.2 i hi).1.trans hop)]
  refine lv_tableIn (off := 191) (tgt := 245) hx hb d_MA_doItem_54 (by decide) (by decide) (by decide) (by decide) ?_
  refine lv_aload_n hx hb d_MA_doItem_245 rfl (lv_at hl 3 rfl) ?_
  refine lv_aload_n hx hb d_MA_doItem_246 rfl (lv_at hl 2 rfl) ?_
  refine lv_iload hx hb d_MA_doItem_247 (lv_at hl 0 rfl) ?_
  refine r_e (post := fun e S1 => (e = if (su S 1 5 (nI (gst s.1 + 1))) (28 + 2 * q) lo ≤ 0 then 4 else 0) ∧ S1 = if (su S 1 5 (nI (gst s.1 + 1))) (28 + 2 * q) lo ≤ 0 then mRaise (su S 1 5 (nI (gst s.1 + 1))) (gnf s.1) q 4 (-1) else mLeave (su S 1 5 (nI (gst s.1 + 1))) q lo) hC hS (r_runV (np := 2) (As := [.ref (gA G (27 + 2 * q)), .int (nI lo)]) (rest := []) hx hb hml hC hP hS (by decide) rfl rfl (m_MA_doLeave l G (su S 1 5 (nI (gst s.1 + 1))) (gnf s.1) q lo (by have h1 := hok.2.2.2.1; omega) hq ((su_k _ _ (by omega)).trans hok.2.1.1.2.2.2.2.2.2.1) hlo) l_MA_166 im_MA_doLeave se_MA_doLeave in_MA c_MA_doLeave_in (by decide +kernel) ⟨by simp only [rmF]; omega, by simp only [rmF]; omega⟩ rfl hl.1 (Nat.le_of_ble_eq_true rfl) d_MA_doItem_249 ⟨Nat.le_refl _, Nat.le_refl _⟩) (fun i_249 S_249 H locs hi_249 hw hP hS => ?_)
  obtain ⟨he9, hSe⟩ := hw
  rw [if_pos hle0] at he9 hSe
  subst he9
  rw [hSe] at hP
  exact e_e (post := fun e S1 => BlkP S S1 q p c (gnf s.1) e (sI op ar E sz (sB op ar E sz F) q c (32 * p + i) s)) hx hb hr hlk hC hP hS d_MA_doItem_252 (by decide) (by unfold sI; rw [if_neg hlt]; unfold sItem; rw [hop, if_neg (by decide), if_neg (by decide), if_neg (by decide), if_neg (by decide), if_neg (by decide), if_neg (by decide), if_neg (by decide), if_neg (by decide), if_neg (by decide), if_neg (by decide), if_neg (by decide), if_neg (by decide), if_pos rfl]; rw [har, nI_clamp (show lo < 2 ^ 31 by omega)]; rw [if_pos he0]; exact (blk_raise hok0 hq hsl 4 (c0 := 0) (Nat.zero_le _)).pre hkb0)

set_option maxHeartbeats 4000000 in
set_option maxRecDepth 100000 in
theorem m_MA_doItem_leave (l : Launch) (G : WG) (S : SS) (op ar : Nat → Int32) (E sz : Nat → Nat) (F q p c i : Nat) (s : SG) (hq : q < 6) (hp : p < 4) (hi : i < sz p) (hok : OKs S op ar E sz q p c s) (hlt : ¬ 300 ≤ gst s.1) (hop : op (32 * p + i) = 12) (lo : Nat) (hlo : lo < 3) (har : ar (32 * p + i) = nI lo) (he0 : ¬ s.2.2 lo = 0) (hh : Nat) (hhh : 4 ≤ hh) : Ce l y_MA_doItem b_MA_doItem 6 hh G [.ref (gA G 1), .int (nI q), .int (nI i)] S (fun e S1 => BlkP S S1 q p c (gnf s.1) e (sI op ar E sz (sB op ar E sz F) q c (32 * p + i) s)) := by
  have hst3 := hok.2.1.1.2.1
  have hpr := hok.2.2.1.1
  have hz32 := (hok.1 p hp).2.1
  have hok0 := hok.stp hq hlt
  have hsl := stp_sl hok
  have hkb0 := stp_kb S q (nI (gst s.1 + 1))
  have hle0 : ¬ (su S 1 5 (nI (gst s.1 + 1))) (28 + 2 * q) lo ≤ 0 := by rw [(hok0.2.2.1.2.2.2 lo hlo).1]; show ¬ nI (s.2.2 lo) ≤ 0; have h5 := (hok.2.2.1.2.2.2 lo hlo).2; exact nI_nle (by omega) (by omega)
  refine mk l (by decide +kernel) (Nat.le_of_ble_eq_true rfl) ?_
  intro pp_ ee_ ss_ mm_ be_ me_ co_ ls hx hb hr hlk hml hC hP hS hl
  have hl : lv_has ls 6 [(0, .ref (gA G 1)), (1, .int (nI q)), (2, .int (nI i))] := hl
  refine lv_aload_n hx hb d_MA_doItem_0 rfl (lv_at hl 0 rfl) ?_
  refine r_get hx hb hC hP i_MA (1) (by decide) rfl rfl 5 (by decide) l_MA_56 rfl d_MA_doItem_1 ?_
  rw [show S 1 5 = nI (gst s.1) from hok.2.1.1.1]
  refine lv_sipush (v := 300) hx hb d_MA_doItem_4 (by decide) ?_
  refine lv_icmp_lt (tgt := 14) hx hb d_MA_doItem_7 (by decide) (fun c_7 => ?_) (fun c_7 => absurd (show gst s.1 < 300 by omega) (fun h => c_7 ((q_lt (a := gst s.1) (b := 300) rfl rfl (by omega) (by omega)).mpr h)))
  refine lv_aload_n hx hb d_MA_doItem_14 rfl (lv_at hl 0 rfl) ?_
  refine lv_dup hx hb d_MA_doItem_15 rfl ?_
  refine r_get hx hb hC hP i_MA (1) (by decide) rfl rfl 5 (by decide) l_MA_56 rfl d_MA_doItem_16 ?_
  rw [show S 1 5 = nI (gst s.1) from hok.2.1.1.1]
  refine lv_iconst (v := 1) hx hb d_MA_doItem_19 (by decide) ?_
  refine lv_iadd hx hb d_MA_doItem_20 ?_
  rw [show (nI (gst s.1)) + 1 = nI (gst s.1 + 1) from nI_1 _]
  refine r_put hx hb hC hP hS i_MA t_MA t_MA_ok n_MA (1) (by decide) rfl rfl 5 (by decide) l_MA_56 rfl rfl rfl (Nat.le_of_ble_eq_true rfl) d_MA_doItem_21 (fun H locs hP hS => ?_)
  refine lv_aload_n hx hb d_MA_doItem_24 rfl (lv_at hl 0 rfl) ?_
  refine r_get hx hb hC hP i_MA (1) (by decide) rfl rfl 1 (by decide) l_MA_19 rfl d_MA_doItem_25 ?_
  refine lv_iload_n hx hb d_MA_doItem_28 rfl (lv_at hl 1 rfl) ?_
  refine r_frame hx hb hC hP q rfl (by omega) d_MA_doItem_29 ?_
  refine lv_astore_n (lv' := [(3, .ref (gA G (27 + 2 * q))), (0, .ref (gA G 1)), (1, .int (nI q)), (2, .int (nI i))]) hx hb d_MA_doItem_30 rfl hl (by decide) rfl (fun ls hl => ?_)
  refine lv_aload_n hx hb d_MA_doItem_31 rfl (lv_at hl 1 rfl) ?_
  refine lv_iload_n hx hb d_MA_doItem_32 rfl (lv_at hl 2 rfl) ?_
  refine r_r (post := fun i S1 => i = 11 + 4 * p ∧ S1 = su S 1 5 (nI (gst s.1 + 1))) hC hS (r_runV (np := 1) (As := [.int (nI q)]) (rest := []) hx hb hml hC hP hS (by decide) rfl rfl (m_MA_textOf l G (su S 1 5 (nI (gst s.1 + 1))) q p hq hp ((su_k _ _ (by omega)).trans hpr)) l_MA_113 im_MA_textOf se_MA_textOf in_MA c_MA_textOf_in (by decide +kernel) ⟨by simp only [rmF]; omega, by simp only [rmF]; omega⟩ rfl hl.1 (Nat.le_of_ble_eq_true rfl) d_MA_doItem_33 ⟨Nat.le_refl _, Nat.le_refl _⟩) (fun i_33 S_33 H locs hw hP hS => ?_)
  obtain ⟨rfl, hSe⟩ := hw
  rw [hSe] at hP
  refine lv_astore (lv' := [(4, .ref (gA G (11 + 4 * p))), (3, .ref (gA G (27 + 2 * q))), (0, .ref (gA G 1)), (1, .int (nI q)), (2, .int (nI i))]) hx hb d_MA_doItem_36 hl (by decide) rfl (fun ls hl => ?_)
  refine lv_aload hx hb d_MA_doItem_38 (lv_at hl 0 rfl) ?_
  refine r_getN hx hb hC hP i_TE (11 + 4 * p) (by omega) (sh_T G _ hp) rfl 1 (by decide) k_MA_130 rfl d_MA_doItem_40 ?_
  refine lv_iload_n hx hb d_MA_doItem_43 rfl (lv_at hl 4 rfl) ?_
  refine r_ild hx hb hC hP (13 + 4 * p) (by omega) (sh_T2 G _ hp) i rfl (by omega) (by decide) d_MA_doItem_44 ?_
  rw [show (su S 1 5 (nI (gst s.1 + 1))) (13 + 4 * p) i = S (13 + 4 * p) i from by rw [su_cell _ _ _ (by omega)]]
  rw [show S (13 + 4 * p) i = nI lo from (((hok.1 p hp).2.2 i hi).2.1.trans har)]
  refine lv_istore (lv' := [(5, .int (nI lo)), (4, .ref (gA G (11 + 4 * p))), (3, .ref (gA G (27 + 2 * q))), (0, .ref (gA G 1)), (1, .int (nI q)), (2, .int (nI i))]) hx hb d_MA_doItem_45 hl (by decide) rfl (fun ls hl => ?_)
  refine lv_aload hx hb d_MA_doItem_47 (lv_at hl 1 rfl) ?_
  refine r_getN hx hb hC hP i_TE (11 + 4 * p) (by omega) (sh_T G _ hp) rfl 0 (by decide) k_MA_133 rfl d_MA_doItem_49 ?_
  refine lv_iload_n hx hb d_MA_doItem_52 rfl (lv_at hl 5 rfl) ?_
  refine r_ild hx hb hC hP (12 + 4 * p) (by omega) (sh_T1 G _ hp) i rfl (by omega) (by decide) d_MA_doItem_53 ?_
  rw [show (su S 1 5 (nI (gst s.1 + 1))) (12 + 4 * p) i = S (12 + 4 * p) i from by rw [su_cell _ _ _ (by omega)]]
  rw [show S (12 + 4 * p) i = 12 from (((hok.1 p hp).2.2 i hi).1.trans hop)]
  refine lv_tableIn (off := 191) (tgt := 245) hx hb d_MA_doItem_54 (by decide) (by decide) (by decide) (by decide) ?_
  refine lv_aload_n hx hb d_MA_doItem_245 rfl (lv_at hl 3 rfl) ?_
  refine lv_aload_n hx hb d_MA_doItem_246 rfl (lv_at hl 2 rfl) ?_
  refine lv_iload hx hb d_MA_doItem_247 (lv_at hl 0 rfl) ?_
  refine r_e (post := fun e S1 => (e = if (su S 1 5 (nI (gst s.1 + 1))) (28 + 2 * q) lo ≤ 0 then 4 else 0) ∧ S1 = if (su S 1 5 (nI (gst s.1 + 1))) (28 + 2 * q) lo ≤ 0 then mRaise (su S 1 5 (nI (gst s.1 + 1))) (gnf s.1) q 4 (-1) else mLeave (su S 1 5 (nI (gst s.1 + 1))) q lo) hC hS (r_runV (np := 2) (As := [.ref (gA G (27 + 2 * q)), .int (nI lo)]) (rest := []) hx hb hml hC hP hS (by decide) rfl rfl (m_MA_doLeave l G (su S 1 5 (nI (gst s.1 + 1))) (gnf s.1) q lo (by have h1 := hok.2.2.2.1; omega) hq ((su_k _ _ (by omega)).trans hok.2.1.1.2.2.2.2.2.2.1) hlo) l_MA_166 im_MA_doLeave se_MA_doLeave in_MA c_MA_doLeave_in (by decide +kernel) ⟨by simp only [rmF]; omega, by simp only [rmF]; omega⟩ rfl hl.1 (Nat.le_of_ble_eq_true rfl) d_MA_doItem_249 ⟨Nat.le_refl _, Nat.le_refl _⟩) (fun i_249 S_249 H locs hi_249 hw hP hS => ?_)
  obtain ⟨he9, hSe⟩ := hw
  rw [if_neg hle0] at he9 hSe
  subst he9
  rw [hSe] at hP
  exact e_e (post := fun e S1 => BlkP S S1 q p c (gnf s.1) e (sI op ar E sz (sB op ar E sz F) q c (32 * p + i) s)) hx hb hr hlk hC hP hS d_MA_doItem_252 (by decide) (by unfold sI; rw [if_neg hlt]; unfold sItem; rw [hop, if_neg (by decide), if_neg (by decide), if_neg (by decide), if_neg (by decide), if_neg (by decide), if_neg (by decide), if_neg (by decide), if_neg (by decide), if_neg (by decide), if_neg (by decide), if_neg (by decide), if_neg (by decide), if_pos rfl]; rw [har, nI_clamp (show lo < 2 ^ 31 by omega)]; rw [if_neg he0]; exact BlkP.on (hok0.lea hq hlo (show 0 < s.2.2 lo by omega)) ((lea_kb _ hq lo).tr hkb0) (Nat.le_refl _))

set_option maxHeartbeats 4000000 in
set_option maxRecDepth 100000 in
theorem m_MA_doItem_above (l : Launch) (G : WG) (S : SS) (op ar : Nat → Int32) (E sz : Nat → Nat) (F q p c i : Nat) (s : SG) (hq : q < 6) (hp : p < 4) (hi : i < sz p) (hok : OKs S op ar E sz q p c s) (hlt : ¬ 300 ≤ gst s.1) (hop : op (32 * p + i) = 14) (h : Nat) (hB : DoB l G op ar E sz F h q p i) (ha : ar (32 * p + i) < s.2.1) (hh : Nat) (hhh : (h + 3) ≤ hh) : Ce l y_MA_doItem b_MA_doItem 6 hh G [.ref (gA G 1), .int (nI q), .int (nI i)] S (fun e S1 => BlkP S S1 q p c (gnf s.1) e (sI op ar E sz (sB op ar E sz F) q c (32 * p + i) s)) := by
  have hst3 := hok.2.1.1.2.1
  have hpr := hok.2.2.1.1
  have hz32 := (hok.1 p hp).2.1
  have hok0 := hok.stp hq hlt
  have hsl := stp_sl hok
  have hkb0 := stp_kb S q (nI (gst s.1 + 1))
  refine mk l (by decide +kernel) (Nat.le_of_ble_eq_true rfl) ?_
  intro pp_ ee_ ss_ mm_ be_ me_ co_ ls hx hb hr hlk hml hC hP hS hl
  have hl : lv_has ls 6 [(0, .ref (gA G 1)), (1, .int (nI q)), (2, .int (nI i))] := hl
  refine lv_aload_n hx hb d_MA_doItem_0 rfl (lv_at hl 0 rfl) ?_
  refine r_get hx hb hC hP i_MA (1) (by decide) rfl rfl 5 (by decide) l_MA_56 rfl d_MA_doItem_1 ?_
  rw [show S 1 5 = nI (gst s.1) from hok.2.1.1.1]
  refine lv_sipush (v := 300) hx hb d_MA_doItem_4 (by decide) ?_
  refine lv_icmp_lt (tgt := 14) hx hb d_MA_doItem_7 (by decide) (fun c_7 => ?_) (fun c_7 => absurd (show gst s.1 < 300 by omega) (fun h => c_7 ((q_lt (a := gst s.1) (b := 300) rfl rfl (by omega) (by omega)).mpr h)))
  refine lv_aload_n hx hb d_MA_doItem_14 rfl (lv_at hl 0 rfl) ?_
  refine lv_dup hx hb d_MA_doItem_15 rfl ?_
  refine r_get hx hb hC hP i_MA (1) (by decide) rfl rfl 5 (by decide) l_MA_56 rfl d_MA_doItem_16 ?_
  rw [show S 1 5 = nI (gst s.1) from hok.2.1.1.1]
  refine lv_iconst (v := 1) hx hb d_MA_doItem_19 (by decide) ?_
  refine lv_iadd hx hb d_MA_doItem_20 ?_
  rw [show (nI (gst s.1)) + 1 = nI (gst s.1 + 1) from nI_1 _]
  refine r_put hx hb hC hP hS i_MA t_MA t_MA_ok n_MA (1) (by decide) rfl rfl 5 (by decide) l_MA_56 rfl rfl rfl (Nat.le_of_ble_eq_true rfl) d_MA_doItem_21 (fun H locs hP hS => ?_)
  refine lv_aload_n hx hb d_MA_doItem_24 rfl (lv_at hl 0 rfl) ?_
  refine r_get hx hb hC hP i_MA (1) (by decide) rfl rfl 1 (by decide) l_MA_19 rfl d_MA_doItem_25 ?_
  refine lv_iload_n hx hb d_MA_doItem_28 rfl (lv_at hl 1 rfl) ?_
  refine r_frame hx hb hC hP q rfl (by omega) d_MA_doItem_29 ?_
  refine lv_astore_n (lv' := [(3, .ref (gA G (27 + 2 * q))), (0, .ref (gA G 1)), (1, .int (nI q)), (2, .int (nI i))]) hx hb d_MA_doItem_30 rfl hl (by decide) rfl (fun ls hl => ?_)
  refine lv_aload_n hx hb d_MA_doItem_31 rfl (lv_at hl 1 rfl) ?_
  refine lv_iload_n hx hb d_MA_doItem_32 rfl (lv_at hl 2 rfl) ?_
  refine r_r (post := fun i S1 => i = 11 + 4 * p ∧ S1 = su S 1 5 (nI (gst s.1 + 1))) hC hS (r_runV (np := 1) (As := [.int (nI q)]) (rest := []) hx hb hml hC hP hS (by decide) rfl rfl (m_MA_textOf l G (su S 1 5 (nI (gst s.1 + 1))) q p hq hp ((su_k _ _ (by omega)).trans hpr)) l_MA_113 im_MA_textOf se_MA_textOf in_MA c_MA_textOf_in (by decide +kernel) ⟨by simp only [rmF]; omega, by simp only [rmF]; omega⟩ rfl hl.1 (Nat.le_of_ble_eq_true rfl) d_MA_doItem_33 ⟨Nat.le_refl _, Nat.le_refl _⟩) (fun i_33 S_33 H locs hw hP hS => ?_)
  obtain ⟨rfl, hSe⟩ := hw
  rw [hSe] at hP
  refine lv_astore (lv' := [(4, .ref (gA G (11 + 4 * p))), (3, .ref (gA G (27 + 2 * q))), (0, .ref (gA G 1)), (1, .int (nI q)), (2, .int (nI i))]) hx hb d_MA_doItem_36 hl (by decide) rfl (fun ls hl => ?_)
  refine lv_aload hx hb d_MA_doItem_38 (lv_at hl 0 rfl) ?_
  refine r_getN hx hb hC hP i_TE (11 + 4 * p) (by omega) (sh_T G _ hp) rfl 1 (by decide) k_MA_130 rfl d_MA_doItem_40 ?_
  refine lv_iload_n hx hb d_MA_doItem_43 rfl (lv_at hl 4 rfl) ?_
  refine r_ild hx hb hC hP (13 + 4 * p) (by omega) (sh_T2 G _ hp) i rfl (by omega) (by decide) d_MA_doItem_44 ?_
  rw [show (su S 1 5 (nI (gst s.1 + 1))) (13 + 4 * p) i = S (13 + 4 * p) i from by rw [su_cell _ _ _ (by omega)]]
  rw [show S (13 + 4 * p) i = ar (32 * p + i) from ((hok.1 p hp).2.2 i hi).2.1]
  refine lv_istore (lv' := [(5, .int (ar (32 * p + i))), (4, .ref (gA G (11 + 4 * p))), (3, .ref (gA G (27 + 2 * q))), (0, .ref (gA G 1)), (1, .int (nI q)), (2, .int (nI i))]) hx hb d_MA_doItem_45 hl (by decide) rfl (fun ls hl => ?_)
  refine lv_aload hx hb d_MA_doItem_47 (lv_at hl 1 rfl) ?_
  refine r_getN hx hb hC hP i_TE (11 + 4 * p) (by omega) (sh_T G _ hp) rfl 0 (by decide) k_MA_133 rfl d_MA_doItem_49 ?_
  refine lv_iload_n hx hb d_MA_doItem_52 rfl (lv_at hl 5 rfl) ?_
  refine r_ild hx hb hC hP (12 + 4 * p) (by omega) (sh_T1 G _ hp) i rfl (by omega) (by decide) d_MA_doItem_53 ?_
  rw [show (su S 1 5 (nI (gst s.1 + 1))) (12 + 4 * p) i = S (12 + 4 * p) i from by rw [su_cell _ _ _ (by omega)]]
  rw [show S (12 + 4 * p) i = 14 from (((hok.1 p hp).2.2 i hi).1.trans hop)]
  refine lv_tableIn (off := 207) (tgt := 261) hx hb d_MA_doItem_54 (by decide) (by decide) (by decide) (by decide) ?_
  refine lv_aload_n hx hb d_MA_doItem_261 rfl (lv_at hl 2 rfl) ?_
  refine r_getN hx hb hC hP i_FR (27 + 2 * q) (by omega) (sh_F G _ hq) rfl 2 (by decide) k_MA_89 rfl d_MA_doItem_262 ?_
  rw [show (su S 1 5 (nI (gst s.1 + 1))) (27 + 2 * q) 2 = S (27 + 2 * q) 2 from by rw [su_cell _ _ _ (by omega)]]
  rw [show S (27 + 2 * q) 2 = s.2.1 from hok.2.2.1.2.1]
  refine lv_iload hx hb d_MA_doItem_265 (lv_at hl 0 rfl) ?_
  refine lv_icmp_le (tgt := 279) hx hb d_MA_doItem_267 (by decide) (fun c_267 => absurd ha (Int32.not_lt.mpr c_267)) (fun c_267 => ?_)
  refine lv_aload_n hx hb d_MA_doItem_270 rfl (lv_at hl 3 rfl) ?_
  refine lv_iload_n hx hb d_MA_doItem_271 rfl (lv_at hl 4 rfl) ?_
  refine lv_iload_n hx hb d_MA_doItem_272 rfl (lv_at hl 5 rfl) ?_
  refine r_e (post := fun e S1 => BlkP (su S 1 5 (nI (gst s.1 + 1))) S1 q p c (gnf s.1) e (sB op ar E sz F q c (32 * p + i + 1) (gStep s.1, s.2.1, s.2.2))) hC hS (r_runV (np := 2) (As := [.int (nI q), .int (nI i)]) (rest := []) hx hb hml hC hP hS (by decide) rfl rfl (hB (su S 1 5 (nI (gst s.1 + 1))) c (gStep s.1, s.2.1, s.2.2) hok0) l_MA_82 im_MA_doBlock se_MA_doBlock in_MA c_MA_doBlock_in (by decide +kernel) ⟨by simp only [rmF]; omega, by simp only [rmF]; omega⟩ rfl hl.1 (Nat.le_of_ble_eq_true rfl) d_MA_doItem_273 ⟨Nat.le_refl _, Nat.le_refl _⟩) (fun i_273 S_273 H locs hi_273 hw hP hS => ?_)
  have hw_273 := hw
  refine lv_goto (tgt := 282) hx hb d_MA_doItem_276 (by decide) ?_
  exact e_e (post := fun e S1 => BlkP S S1 q p c (gnf s.1) e (sI op ar E sz (sB op ar E sz F) q c (32 * p + i) s)) hx hb hr hlk hC hP hS d_MA_doItem_282 hi_273 (by unfold sI; rw [if_neg hlt]; unfold sItem; rw [hop, if_neg (by decide), if_neg (by decide), if_neg (by decide), if_neg (by decide), if_neg (by decide), if_neg (by decide), if_neg (by decide), if_neg (by decide), if_neg (by decide), if_neg (by decide), if_neg (by decide), if_neg (by decide), if_neg (by decide), if_neg (by decide), if_pos rfl]; rw [if_pos ha]; exact hw_273.pre hkb0)

set_option maxHeartbeats 4000000 in
set_option maxRecDepth 100000 in
theorem m_MA_doItem_above0 (l : Launch) (G : WG) (S : SS) (op ar : Nat → Int32) (E sz : Nat → Nat) (F q p c i : Nat) (s : SG) (hq : q < 6) (hp : p < 4) (hi : i < sz p) (hok : OKs S op ar E sz q p c s) (hlt : ¬ 300 ≤ gst s.1) (hop : op (32 * p + i) = 14) (ha : ¬ ar (32 * p + i) < s.2.1) (hh : Nat) (hhh : 4 ≤ hh) : Ce l y_MA_doItem b_MA_doItem 6 hh G [.ref (gA G 1), .int (nI q), .int (nI i)] S (fun e S1 => BlkP S S1 q p c (gnf s.1) e (sI op ar E sz (sB op ar E sz F) q c (32 * p + i) s)) := by
  have hst3 := hok.2.1.1.2.1
  have hpr := hok.2.2.1.1
  have hz32 := (hok.1 p hp).2.1
  have hok0 := hok.stp hq hlt
  have hsl := stp_sl hok
  have hkb0 := stp_kb S q (nI (gst s.1 + 1))
  refine mk l (by decide +kernel) (Nat.le_of_ble_eq_true rfl) ?_
  intro pp_ ee_ ss_ mm_ be_ me_ co_ ls hx hb hr hlk hml hC hP hS hl
  have hl : lv_has ls 6 [(0, .ref (gA G 1)), (1, .int (nI q)), (2, .int (nI i))] := hl
  refine lv_aload_n hx hb d_MA_doItem_0 rfl (lv_at hl 0 rfl) ?_
  refine r_get hx hb hC hP i_MA (1) (by decide) rfl rfl 5 (by decide) l_MA_56 rfl d_MA_doItem_1 ?_
  rw [show S 1 5 = nI (gst s.1) from hok.2.1.1.1]
  refine lv_sipush (v := 300) hx hb d_MA_doItem_4 (by decide) ?_
  refine lv_icmp_lt (tgt := 14) hx hb d_MA_doItem_7 (by decide) (fun c_7 => ?_) (fun c_7 => absurd (show gst s.1 < 300 by omega) (fun h => c_7 ((q_lt (a := gst s.1) (b := 300) rfl rfl (by omega) (by omega)).mpr h)))
  refine lv_aload_n hx hb d_MA_doItem_14 rfl (lv_at hl 0 rfl) ?_
  refine lv_dup hx hb d_MA_doItem_15 rfl ?_
  refine r_get hx hb hC hP i_MA (1) (by decide) rfl rfl 5 (by decide) l_MA_56 rfl d_MA_doItem_16 ?_
  rw [show S 1 5 = nI (gst s.1) from hok.2.1.1.1]
  refine lv_iconst (v := 1) hx hb d_MA_doItem_19 (by decide) ?_
  refine lv_iadd hx hb d_MA_doItem_20 ?_
  rw [show (nI (gst s.1)) + 1 = nI (gst s.1 + 1) from nI_1 _]
  refine r_put hx hb hC hP hS i_MA t_MA t_MA_ok n_MA (1) (by decide) rfl rfl 5 (by decide) l_MA_56 rfl rfl rfl (Nat.le_of_ble_eq_true rfl) d_MA_doItem_21 (fun H locs hP hS => ?_)
  refine lv_aload_n hx hb d_MA_doItem_24 rfl (lv_at hl 0 rfl) ?_
  refine r_get hx hb hC hP i_MA (1) (by decide) rfl rfl 1 (by decide) l_MA_19 rfl d_MA_doItem_25 ?_
  refine lv_iload_n hx hb d_MA_doItem_28 rfl (lv_at hl 1 rfl) ?_
  refine r_frame hx hb hC hP q rfl (by omega) d_MA_doItem_29 ?_
  refine lv_astore_n (lv' := [(3, .ref (gA G (27 + 2 * q))), (0, .ref (gA G 1)), (1, .int (nI q)), (2, .int (nI i))]) hx hb d_MA_doItem_30 rfl hl (by decide) rfl (fun ls hl => ?_)
  refine lv_aload_n hx hb d_MA_doItem_31 rfl (lv_at hl 1 rfl) ?_
  refine lv_iload_n hx hb d_MA_doItem_32 rfl (lv_at hl 2 rfl) ?_
  refine r_r (post := fun i S1 => i = 11 + 4 * p ∧ S1 = su S 1 5 (nI (gst s.1 + 1))) hC hS (r_runV (np := 1) (As := [.int (nI q)]) (rest := []) hx hb hml hC hP hS (by decide) rfl rfl (m_MA_textOf l G (su S 1 5 (nI (gst s.1 + 1))) q p hq hp ((su_k _ _ (by omega)).trans hpr)) l_MA_113 im_MA_textOf se_MA_textOf in_MA c_MA_textOf_in (by decide +kernel) ⟨by simp only [rmF]; omega, by simp only [rmF]; omega⟩ rfl hl.1 (Nat.le_of_ble_eq_true rfl) d_MA_doItem_33 ⟨Nat.le_refl _, Nat.le_refl _⟩) (fun i_33 S_33 H locs hw hP hS => ?_)
  obtain ⟨rfl, hSe⟩ := hw
  rw [hSe] at hP
  refine lv_astore (lv' := [(4, .ref (gA G (11 + 4 * p))), (3, .ref (gA G (27 + 2 * q))), (0, .ref (gA G 1)), (1, .int (nI q)), (2, .int (nI i))]) hx hb d_MA_doItem_36 hl (by decide) rfl (fun ls hl => ?_)
  refine lv_aload hx hb d_MA_doItem_38 (lv_at hl 0 rfl) ?_
  refine r_getN hx hb hC hP i_TE (11 + 4 * p) (by omega) (sh_T G _ hp) rfl 1 (by decide) k_MA_130 rfl d_MA_doItem_40 ?_
  refine lv_iload_n hx hb d_MA_doItem_43 rfl (lv_at hl 4 rfl) ?_
  refine r_ild hx hb hC hP (13 + 4 * p) (by omega) (sh_T2 G _ hp) i rfl (by omega) (by decide) d_MA_doItem_44 ?_
  rw [show (su S 1 5 (nI (gst s.1 + 1))) (13 + 4 * p) i = S (13 + 4 * p) i from by rw [su_cell _ _ _ (by omega)]]
  rw [show S (13 + 4 * p) i = ar (32 * p + i) from ((hok.1 p hp).2.2 i hi).2.1]
  refine lv_istore (lv' := [(5, .int (ar (32 * p + i))), (4, .ref (gA G (11 + 4 * p))), (3, .ref (gA G (27 + 2 * q))), (0, .ref (gA G 1)), (1, .int (nI q)), (2, .int (nI i))]) hx hb d_MA_doItem_45 hl (by decide) rfl (fun ls hl => ?_)
  refine lv_aload hx hb d_MA_doItem_47 (lv_at hl 1 rfl) ?_
  refine r_getN hx hb hC hP i_TE (11 + 4 * p) (by omega) (sh_T G _ hp) rfl 0 (by decide) k_MA_133 rfl d_MA_doItem_49 ?_
  refine lv_iload_n hx hb d_MA_doItem_52 rfl (lv_at hl 5 rfl) ?_
  refine r_ild hx hb hC hP (12 + 4 * p) (by omega) (sh_T1 G _ hp) i rfl (by omega) (by decide) d_MA_doItem_53 ?_
  rw [show (su S 1 5 (nI (gst s.1 + 1))) (12 + 4 * p) i = S (12 + 4 * p) i from by rw [su_cell _ _ _ (by omega)]]
  rw [show S (12 + 4 * p) i = 14 from (((hok.1 p hp).2.2 i hi).1.trans hop)]
  refine lv_tableIn (off := 207) (tgt := 261) hx hb d_MA_doItem_54 (by decide) (by decide) (by decide) (by decide) ?_
  refine lv_aload_n hx hb d_MA_doItem_261 rfl (lv_at hl 2 rfl) ?_
  refine r_getN hx hb hC hP i_FR (27 + 2 * q) (by omega) (sh_F G _ hq) rfl 2 (by decide) k_MA_89 rfl d_MA_doItem_262 ?_
  rw [show (su S 1 5 (nI (gst s.1 + 1))) (27 + 2 * q) 2 = S (27 + 2 * q) 2 from by rw [su_cell _ _ _ (by omega)]]
  rw [show S (27 + 2 * q) 2 = s.2.1 from hok.2.2.1.2.1]
  refine lv_iload hx hb d_MA_doItem_265 (lv_at hl 0 rfl) ?_
  refine lv_icmp_le (tgt := 279) hx hb d_MA_doItem_267 (by decide) (fun c_267 => ?_) (fun c_267 => absurd (Int32.not_lt.mp ha) c_267)
  refine r_enum hx hb hC hS 0 (by decide) l_MA_86 d_MA_doItem_279 ?_
  exact e_e (post := fun e S1 => BlkP S S1 q p c (gnf s.1) e (sI op ar E sz (sB op ar E sz F) q c (32 * p + i) s)) hx hb hr hlk hC hP hS d_MA_doItem_282 (by decide) (by unfold sI; rw [if_neg hlt]; unfold sItem; rw [hop, if_neg (by decide), if_neg (by decide), if_neg (by decide), if_neg (by decide), if_neg (by decide), if_neg (by decide), if_neg (by decide), if_neg (by decide), if_neg (by decide), if_neg (by decide), if_neg (by decide), if_neg (by decide), if_neg (by decide), if_neg (by decide), if_pos rfl]; rw [if_neg ha]; exact BlkP.on hok0 hkb0 (Nat.le_refl _))

set_option maxHeartbeats 4000000 in
set_option maxRecDepth 100000 in
theorem m_MA_doItem_held (l : Launch) (G : WG) (S : SS) (op ar : Nat → Int32) (E sz : Nat → Nat) (F q p c i : Nat) (s : SG) (hq : q < 6) (hp : p < 4) (hi : i < sz p) (hok : OKs S op ar E sz q p c s) (hlt : ¬ 300 ≤ gst s.1) (hop : op (32 * p + i) = 15) (lo : Nat) (hlo : lo < 3) (har : ar (32 * p + i) = nI lo) (hh : Nat) (hhh : 4 ≤ hh) : Ce l y_MA_doItem b_MA_doItem 6 hh G [.ref (gA G 1), .int (nI q), .int (nI i)] S (fun e S1 => BlkP S S1 q p c (gnf s.1) e (sI op ar E sz (sB op ar E sz F) q c (32 * p + i) s)) := by
  have hst3 := hok.2.1.1.2.1
  have hpr := hok.2.2.1.1
  have hz32 := (hok.1 p hp).2.1
  have hok0 := hok.stp hq hlt
  have hsl := stp_sl hok
  have hkb0 := stp_kb S q (nI (gst s.1 + 1))
  refine mk l (by decide +kernel) (Nat.le_of_ble_eq_true rfl) ?_
  intro pp_ ee_ ss_ mm_ be_ me_ co_ ls hx hb hr hlk hml hC hP hS hl
  have hl : lv_has ls 6 [(0, .ref (gA G 1)), (1, .int (nI q)), (2, .int (nI i))] := hl
  refine lv_aload_n hx hb d_MA_doItem_0 rfl (lv_at hl 0 rfl) ?_
  refine r_get hx hb hC hP i_MA (1) (by decide) rfl rfl 5 (by decide) l_MA_56 rfl d_MA_doItem_1 ?_
  rw [show S 1 5 = nI (gst s.1) from hok.2.1.1.1]
  refine lv_sipush (v := 300) hx hb d_MA_doItem_4 (by decide) ?_
  refine lv_icmp_lt (tgt := 14) hx hb d_MA_doItem_7 (by decide) (fun c_7 => ?_) (fun c_7 => absurd (show gst s.1 < 300 by omega) (fun h => c_7 ((q_lt (a := gst s.1) (b := 300) rfl rfl (by omega) (by omega)).mpr h)))
  refine lv_aload_n hx hb d_MA_doItem_14 rfl (lv_at hl 0 rfl) ?_
  refine lv_dup hx hb d_MA_doItem_15 rfl ?_
  refine r_get hx hb hC hP i_MA (1) (by decide) rfl rfl 5 (by decide) l_MA_56 rfl d_MA_doItem_16 ?_
  rw [show S 1 5 = nI (gst s.1) from hok.2.1.1.1]
  refine lv_iconst (v := 1) hx hb d_MA_doItem_19 (by decide) ?_
  refine lv_iadd hx hb d_MA_doItem_20 ?_
  rw [show (nI (gst s.1)) + 1 = nI (gst s.1 + 1) from nI_1 _]
  refine r_put hx hb hC hP hS i_MA t_MA t_MA_ok n_MA (1) (by decide) rfl rfl 5 (by decide) l_MA_56 rfl rfl rfl (Nat.le_of_ble_eq_true rfl) d_MA_doItem_21 (fun H locs hP hS => ?_)
  refine lv_aload_n hx hb d_MA_doItem_24 rfl (lv_at hl 0 rfl) ?_
  refine r_get hx hb hC hP i_MA (1) (by decide) rfl rfl 1 (by decide) l_MA_19 rfl d_MA_doItem_25 ?_
  refine lv_iload_n hx hb d_MA_doItem_28 rfl (lv_at hl 1 rfl) ?_
  refine r_frame hx hb hC hP q rfl (by omega) d_MA_doItem_29 ?_
  refine lv_astore_n (lv' := [(3, .ref (gA G (27 + 2 * q))), (0, .ref (gA G 1)), (1, .int (nI q)), (2, .int (nI i))]) hx hb d_MA_doItem_30 rfl hl (by decide) rfl (fun ls hl => ?_)
  refine lv_aload_n hx hb d_MA_doItem_31 rfl (lv_at hl 1 rfl) ?_
  refine lv_iload_n hx hb d_MA_doItem_32 rfl (lv_at hl 2 rfl) ?_
  refine r_r (post := fun i S1 => i = 11 + 4 * p ∧ S1 = su S 1 5 (nI (gst s.1 + 1))) hC hS (r_runV (np := 1) (As := [.int (nI q)]) (rest := []) hx hb hml hC hP hS (by decide) rfl rfl (m_MA_textOf l G (su S 1 5 (nI (gst s.1 + 1))) q p hq hp ((su_k _ _ (by omega)).trans hpr)) l_MA_113 im_MA_textOf se_MA_textOf in_MA c_MA_textOf_in (by decide +kernel) ⟨by simp only [rmF]; omega, by simp only [rmF]; omega⟩ rfl hl.1 (Nat.le_of_ble_eq_true rfl) d_MA_doItem_33 ⟨Nat.le_refl _, Nat.le_refl _⟩) (fun i_33 S_33 H locs hw hP hS => ?_)
  obtain ⟨rfl, hSe⟩ := hw
  rw [hSe] at hP
  refine lv_astore (lv' := [(4, .ref (gA G (11 + 4 * p))), (3, .ref (gA G (27 + 2 * q))), (0, .ref (gA G 1)), (1, .int (nI q)), (2, .int (nI i))]) hx hb d_MA_doItem_36 hl (by decide) rfl (fun ls hl => ?_)
  refine lv_aload hx hb d_MA_doItem_38 (lv_at hl 0 rfl) ?_
  refine r_getN hx hb hC hP i_TE (11 + 4 * p) (by omega) (sh_T G _ hp) rfl 1 (by decide) k_MA_130 rfl d_MA_doItem_40 ?_
  refine lv_iload_n hx hb d_MA_doItem_43 rfl (lv_at hl 4 rfl) ?_
  refine r_ild hx hb hC hP (13 + 4 * p) (by omega) (sh_T2 G _ hp) i rfl (by omega) (by decide) d_MA_doItem_44 ?_
  rw [show (su S 1 5 (nI (gst s.1 + 1))) (13 + 4 * p) i = S (13 + 4 * p) i from by rw [su_cell _ _ _ (by omega)]]
  rw [show S (13 + 4 * p) i = nI lo from (((hok.1 p hp).2.2 i hi).2.1.trans har)]
  refine lv_istore (lv' := [(5, .int (nI lo)), (4, .ref (gA G (11 + 4 * p))), (3, .ref (gA G (27 + 2 * q))), (0, .ref (gA G 1)), (1, .int (nI q)), (2, .int (nI i))]) hx hb d_MA_doItem_45 hl (by decide) rfl (fun ls hl => ?_)
  refine lv_aload hx hb d_MA_doItem_47 (lv_at hl 1 rfl) ?_
  refine r_getN hx hb hC hP i_TE (11 + 4 * p) (by omega) (sh_T G _ hp) rfl 0 (by decide) k_MA_133 rfl d_MA_doItem_49 ?_
  refine lv_iload_n hx hb d_MA_doItem_52 rfl (lv_at hl 5 rfl) ?_
  refine r_ild hx hb hC hP (12 + 4 * p) (by omega) (sh_T1 G _ hp) i rfl (by omega) (by decide) d_MA_doItem_53 ?_
  rw [show (su S 1 5 (nI (gst s.1 + 1))) (12 + 4 * p) i = S (12 + 4 * p) i from by rw [su_cell _ _ _ (by omega)]]
  rw [show S (12 + 4 * p) i = 15 from (((hok.1 p hp).2.2 i hi).1.trans hop)]
  refine lv_tableIn (off := 229) (tgt := 283) hx hb d_MA_doItem_54 (by decide) (by decide) (by decide) (by decide) ?_
  refine lv_aload_n hx hb d_MA_doItem_283 rfl (lv_at hl 2 rfl) ?_
  refine lv_aload_n hx hb d_MA_doItem_284 rfl (lv_at hl 3 rfl) ?_
  refine r_get hx hb hC hP i_MA (1) (by decide) rfl rfl 3 (by decide) l_MA_33 rfl d_MA_doItem_285 ?_
  refine lv_iload hx hb d_MA_doItem_288 (lv_at hl 0 rfl) ?_
  refine r_i hC hS (r_runV (np := 1) (As := [.int (nI lo)]) (rest := [.ref (gA G (27 + 2 * q))]) hx hb hml hC hP hS (by decide) rfl rfl (m_LO_isHeld l G (su S 1 5 (nI (gst s.1 + 1))) lo hlo) l_MA_172 im_LO_isHeld se_LO_isHeld in_LO c_LO_isHeld_in (by decide +kernel) ⟨by simp only [rmF]; omega, by simp only [rmF]; omega⟩ rfl hl.1 (Nat.le_of_ble_eq_true rfl) d_MA_doItem_290 ⟨Nat.le_refl _, Nat.le_refl _⟩) (fun r_290 S_290 H locs hw hP hS => ?_)
  obtain ⟨rfl, hSe⟩ := hw
  rw [hSe] at hP
  refine lv_if_eq (tgt := 300) hx hb d_MA_doItem_293 (by decide) (fun c_293 => ?_) (fun c_293 => ?_)
  · have c_293 := b2i_f c_293
    refine lv_iconst (v := 0) hx hb d_MA_doItem_300 (by decide) ?_
    refine r_putN hx hb hC hP hS i_FR t_FR t_FR_ok n_FR (27 + 2 * q) (by omega) (sh_F G _ hq) rfl 2 (by decide) k_MA_89 rfl rfl (by rw [sh_F G _ hq]; rfl) (Nat.le_of_ble_eq_true rfl) d_MA_doItem_301 (fun H locs hP hS => ?_)
    refine r_enum hx hb hC hS 0 (by decide) l_MA_86 d_MA_doItem_304 ?_
    exact e_e (post := fun e S1 => BlkP S S1 q p c (gnf s.1) e (sI op ar E sz (sB op ar E sz F) q c (32 * p + i) s)) hx hb hr hlk hC hP hS d_MA_doItem_307 (by decide) (by unfold sI; rw [if_neg hlt]; unfold sItem; rw [hop, if_neg (by decide), if_neg (by decide), if_neg (by decide), if_neg (by decide), if_neg (by decide), if_neg (by decide), if_neg (by decide), if_neg (by decide), if_neg (by decide), if_neg (by decide), if_neg (by decide), if_neg (by decide), if_neg (by decide), if_neg (by decide), if_neg (by decide)]; rw [har, nI_clamp (show lo < 2 ^ 31 by omega)]; rw [if_neg (by have h8 := of_decide_eq_false c_293; rw [hok0.2.1.2.1 lo hlo] at h8; exact h8)]; exact BlkP.on (hok0.acc hq _) ((acc_kb _ hq _).tr hkb0) (Nat.le_refl _))
  · have c_293 := b2i_t c_293
    refine lv_iconst (v := 1) hx hb d_MA_doItem_296 (by decide) ?_
    refine lv_goto (tgt := 301) hx hb d_MA_doItem_297 (by decide) ?_
    refine r_putN hx hb hC hP hS i_FR t_FR t_FR_ok n_FR (27 + 2 * q) (by omega) (sh_F G _ hq) rfl 2 (by decide) k_MA_89 rfl rfl (by rw [sh_F G _ hq]; rfl) (Nat.le_of_ble_eq_true rfl) d_MA_doItem_301 (fun H locs hP hS => ?_)
    refine r_enum hx hb hC hS 0 (by decide) l_MA_86 d_MA_doItem_304 ?_
    exact e_e (post := fun e S1 => BlkP S S1 q p c (gnf s.1) e (sI op ar E sz (sB op ar E sz F) q c (32 * p + i) s)) hx hb hr hlk hC hP hS d_MA_doItem_307 (by decide) (by unfold sI; rw [if_neg hlt]; unfold sItem; rw [hop, if_neg (by decide), if_neg (by decide), if_neg (by decide), if_neg (by decide), if_neg (by decide), if_neg (by decide), if_neg (by decide), if_neg (by decide), if_neg (by decide), if_neg (by decide), if_neg (by decide), if_neg (by decide), if_neg (by decide), if_neg (by decide), if_neg (by decide)]; rw [har, nI_clamp (show lo < 2 ^ 31 by omega)]; rw [if_pos (by have h8 := of_decide_eq_true c_293; rw [hok0.2.1.2.1 lo hlo] at h8; exact h8)]; exact BlkP.on (hok0.acc hq _) ((acc_kb _ hq _).tr hkb0) (Nat.le_refl _))

