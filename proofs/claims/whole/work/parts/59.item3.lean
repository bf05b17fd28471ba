/-! steps never fall; doItem at CALL: written by wip/gen/p59.py -/
theorem sTimes_st {rec : SG → RR} (h : ∀ s : SG, gst s.1 ≤ gst (rec s).2.2.2.1) : ∀ (k : Nat) (s : SG), gst s.1 ≤ gst (sTimes rec k s).2.2.2.1 := by
  intro k
  induction k with
  | zero => intro s; exact Nat.le_refl _
  | succ k ih =>
    intro s
    show gst s.1 ≤ gst (if (rec s).1 = 1 then rOn (rec s).2.2.2 else if (rec s).1 = 0 ∨ (rec s).1 = 2 then sTimes rec k (rec s).2.2.2 else rec s).2.2.2.1
    split
    · exact h s
    · split
      · exact Nat.le_trans (h s) (ih _)
      · exact h s
theorem sCat_st {ar : Nat → Int32} {E : Nat → Nat} {rec : Nat → Nat → SG → RR} (h : ∀ (c i : Nat) (s : SG), gst s.1 ≤ gst (rec c i s).2.2.2.1) (i : Nat) (r : RR) : gst r.2.2.2.1 ≤ gst (sCat ar E rec i r).2.2.2.1 := by
  unfold sCat
  split
  · split
    · exact h _ _ _
    · exact Nat.le_refl _
  · exact Nat.le_refl _
theorem sLst_st {rec : SG → RR} (h : ∀ s : SG, gst s.1 ≤ gst (rec s).2.2.2.1) (r : RR) : gst r.2.2.2.1 ≤ gst (sLst rec r).2.2.2.1 := by
  unfold sLst
  split
  · exact h _
  · exact h _
theorem sTry_st {ar : Nat → Int32} {E : Nat → Nat} {rec : Nat → Nat → SG → RR} (h : ∀ (c i : Nat) (s : SG), gst s.1 ≤ gst (rec c i s).2.2.2.1) (c i : Nat) (s : SG) : gst s.1 ≤ gst (sTry ar E rec c i s).2.2.2.1 := by
  unfold sTry
  split
  · exact Nat.le_trans (h _ _ _) (sCat_st h i _)
  · exact Nat.le_trans (Nat.le_trans (h _ _ _) (sCat_st h i _)) (sLst_st (h _ _) _)
theorem sFin_st (r : RR) : gst (sFin r).2.2.2 = gst r.2.2.2.1 := by
  unfold sFin
  split
  · rfl
  · split
    · rfl
    · split
      · rfl
      · rfl
theorem sCall_st (u : Nat × Int32 × Nat × GS) (ac : Int32) (en : Nat → Nat) : gst (sCall u ac en).2.2.2.1 = gst u.2.2.2 := by
  unfold sCall
  split
  · rfl
  · split
    · rfl
    · rfl
theorem sItem_st {op ar : Nat → Int32} {E sz : Nat → Nat} {rec : Nat → Nat → Nat → SG → RR} (h : ∀ (v c i : Nat) (s : SG), gst s.1 ≤ gst (rec v c i s).2.2.2.1) (v c i : Nat) (g : GS) (ac : Int32) (en : Nat → Nat) : gst g ≤ gst (sItem op ar E sz rec v c i g ac en).2.2.2.1 := by
  unfold sItem
  by_cases h0 : op i = 0
  · rw [if_pos h0]
    exact Nat.le_refl _
  rw [if_neg h0]
  by_cases h1 : op i = 1
  · rw [if_pos h1]
    exact Nat.le_refl _
  rw [if_neg h1]
  by_cases h2 : op i = 2
  · rw [if_pos h2]
    by_cases hx : ar i = 0
    · rw [if_pos hx]; exact Nat.le_refl _
    · rw [if_neg hx]; exact Nat.le_refl _
  rw [if_neg h2]
  by_cases h3 : op i = 3
  · rw [if_pos h3]
    exact sTimes_st (h v c (i + 1)) _ (g, ac, en)
  rw [if_neg h3]
  by_cases h4 : op i = 4
  · rw [if_pos h4]
    exact Nat.le_refl _
  rw [if_neg h4]
  by_cases h5 : op i = 5
  · rw [if_pos h5]
    exact Nat.le_refl _
  rw [if_neg h5]
  by_cases h6 : op i = 6
  · rw [if_pos h6]
    exact Nat.le_refl _
  rw [if_neg h6]
  by_cases h7 : op i = 7
  · rw [if_pos h7]
    exact Nat.le_refl _
  rw [if_neg h7]
  by_cases h8 : op i = 8
  · rw [if_pos h8]
    exact Nat.le_refl _
  rw [if_neg h8]
  by_cases h9 : op i = 9
  · rw [if_pos h9]
    exact sTry_st (h v) c i (g, ac, en)
  rw [if_neg h9]
  by_cases h10 : op i = 10
  · rw [if_pos h10]
    have h1 := h v c (i + 1) (gHold g (ar i).toNatClampNeg, ac, en)
    by_cases hx : (rec v c (i + 1) (gHold g (ar i).toNatClampNeg, ac, en)).1 = 5
    · rw [if_pos hx]; exact h1
    · rw [if_neg hx]; exact h1
  rw [if_neg h10]
  by_cases h11 : op i = 11
  · rw [if_pos h11]
    exact Nat.le_refl _
  rw [if_neg h11]
  by_cases h12 : op i = 12
  · rw [if_pos h12]
    by_cases hx : en (ar i).toNatClampNeg = 0
    · rw [if_pos hx]; exact Nat.le_refl _
    · rw [if_neg hx]; exact Nat.le_refl _
  rw [if_neg h12]
  by_cases h13 : op i = 13
  · rw [if_pos h13]
    by_cases hx : v = 5
    · rw [if_pos hx]; exact Nat.le_refl _
    · rw [if_neg hx]
      by_cases hy : sz (ar i).toNatClampNeg = 0
      · rw [if_pos hy]; exact Nat.le_refl _
      · rw [if_neg hy, sCall_st, sFin_st]
        exact h (v + 1) 0 _ (g, ac, fun _ => 0)
  rw [if_neg h13]
  by_cases h14 : op i = 14
  · rw [if_pos h14]
    by_cases hx : ar i < ac
    · rw [if_pos hx]; exact h v c (i + 1) (g, ac, en)
    · rw [if_neg hx]; exact Nat.le_refl _
  rw [if_neg h14]
  exact Nat.le_refl _
theorem sI_st {op ar : Nat → Int32} {E sz : Nat → Nat} {rec : Nat → Nat → Nat → SG → RR} (h : ∀ (v c i : Nat) (s : SG), gst s.1 ≤ gst (rec v c i s).2.2.2.1) (v c i : Nat) (s : SG) : gst s.1 ≤ gst (sI op ar E sz rec v c i s).2.2.2.1 := by
  unfold sI
  split
  · exact Nat.le_refl _
  · exact Nat.le_trans (Nat.le_succ _) (sItem_st h v c i (gStep s.1) s.2.1 s.2.2)
theorem sB_st (op ar : Nat → Int32) (E sz : Nat → Nat) : ∀ (f v c i : Nat) (s : SG), gst s.1 ≤ gst (sB op ar E sz f v c i s).2.2.2.1 := by
  intro f
  induction f with
  | zero => intro v c i s; exact Nat.le_refl _
  | succ f ih =>
    intro v c i s
    show gst s.1 ≤ gst (if op i = 18 then rOn s else if (sI op ar E sz (sB op ar E sz f) v c i s).1 = 0 then sB op ar E sz f v c (nxI op ar E i) (sI op ar E sz (sB op ar E sz f) v c i s).2.2.2 else sI op ar E sz (sB op ar E sz f) v c i s).2.2.2.1
    split
    · exact Nat.le_refl _
    · split
      · exact Nat.le_trans (sI_st ih v c i s) (ih _ _ _ _)
      · exact sI_st ih v c i s
theorem sP0_st (op ar : Nat → Int32) (E sz : Nat → Nat) (F q p : Nat) (s : SG) : gst s.1 ≤ gst (sFin (sP0 op ar E sz F q p s)).2.2.2 := by
  rw [sFin_st]
  unfold sP0
  split
  · exact Nat.le_refl _
  · exact sB_st op ar E sz F q 0 _ s
theorem gRelE_0 (g : GS) : gRelE g (fun _ => 0) = g := by
  unfold gRelE
  show gRel (gRel (gRel g 0 0) 1 0) 2 0 = g
  rw [gRel_0, gRel_0, gRel_0]
theorem sCall_e (g : GS) (ac : Int32) (en : Nat → Nat) : sCall (sFin (rOn (g, ac, fun _ => 0))) ac en = rOn (g, ac, en) := by
  show sCall (if (0 : Nat) = 5 then _ else if enOwe (fun _ => 0) = true then _ else if (0 : Nat) = 4 then _ else (3, (if (0 : Nat) = 3 then (0 : Int32) else ac), 0, gRelE g (fun _ => 0))) ac en = _
  rw [if_neg (by decide), if_neg (by decide), if_neg (by decide), if_neg (by decide), gRelE_0]
  rfl
set_option maxHeartbeats 4000000 in
set_option maxRecDepth 100000 in
theorem m_MA_doItem_deep (l : Launch) (G : WG) (S : SS) (op ar : Nat → Int32) (E sz : Nat → Nat) (F q p c i : Nat) (s : SG) (hq : q < 6) (hp : p < 4) (hi : i < sz p) (hok : OKs S op ar E sz q p c s) (hlt : ¬ 300 ≤ gst s.1) (hop : op (32 * p + i) = 13) (pr : Nat) (hpr4 : pr < 4) (har : ar (32 * p + i) = nI pr) (hq5 : q = 5) (hh : Nat) (hhh : 4 ≤ hh) : Ce l y_MA_doItem b_MA_doItem 6 hh G [.ref (gA G 1), .int (nI q), .int (nI i)] S (fun e S1 => BlkP S S1 q p c (gnf s.1) e (sI op ar E sz (sB op ar E sz F) q c (32 * p + i) s)) := by
  have hst3 := hok.2.1.1.2.1
  have hpr := hok.2.2.1.1
  have hz32 := (hok.1 p hp).2.1
  have hok0 := hok.stp hq hlt
  have hsl := stp_sl hok
  have hkb0 := stp_kb S q (nI (gst s.1 + 1))
  refine mk l (by decide +kernel) (Nat.le_of_ble_eq_true rfl) ?_
  intro pp_ ee_ ss_ mm_ be_ me_ co_ ls hx hb hr hlk hml hC hP hS hl
  have hl : lv_has ls 6 [(0, .ref (gA G 1)), (1, .int (nI q)), (2, .int (nI i))] := hl
  refine lv_aload_n hx hb d_MA_doItem_0 rfl (lv_at hl 0 rfl) ?_
  refine r_get hx hb hC hP i_MA (1) (by decide) rfl rfl 5 (by decide) l_MA_56 rfl d_MA_doItem_1 ?_
  rw [show S 1 5 = nI (gst s.1) from hok.2.1.1.1]
  refine lv_sipush (v := 300) hx hb d_MA_doItem_4 (by decide) ?_
  refine lv_icmp_lt (tgt := 14) hx hb d_MA_doItem_7 (by decide) (fun c_7 => ?_) (fun c_7 => absurd (show gst s.1 < 300 by omega) (fun h => c_7 ((q_lt (a := gst s.1) (b := 300) rfl rfl (by omega) (by omega)).mpr h)))
  refine lv_aload_n hx hb d_MA_doItem_14 rfl (lv_at hl 0 rfl) ?_
  refine lv_dup hx hb d_MA_doItem_15 rfl ?_
  refine r_get hx hb hC hP i_MA (1) (by decide) rfl rfl 5 (by decide) l_MA_56 rfl d_MA_doItem_16 ?_
  rw [show S 1 5 = nI (gst s.1) from hok.2.1.1.1]
  refine lv_iconst (v := 1) hx hb d_MA_doItem_19 (by decide) ?_
  refine lv_iadd hx hb d_MA_doItem_20 ?_
  rw [show (nI (gst s.1)) + 1 = nI (gst s.1 + 1) from nI_1 _]
  refine r_put hx hb hC hP hS i_MA t_MA t_MA_ok n_MA (1) (by decide) rfl rfl 5 (by decide) l_MA_56 rfl rfl rfl (Nat.le_of_ble_eq_true rfl) d_MA_doItem_21 (fun H locs hP hS => ?_)
  refine lv_aload_n hx hb d_MA_doItem_24 rfl (lv_at hl 0 rfl) ?_
  refine r_get hx hb hC hP i_MA (1) (by decide) rfl rfl 1 (by decide) l_MA_19 rfl d_MA_doItem_25 ?_
  refine lv_iload_n hx hb d_MA_doItem_28 rfl (lv_at hl 1 rfl) ?_
  refine r_frame hx hb hC hP q rfl (by omega) d_MA_doItem_29 ?_
  refine lv_astore_n (lv' := [(3, .ref (gA G (27 + 2 * q))), (0, .ref (gA G 1)), (1, .int (nI q)), (2, .int (nI i))]) hx hb d_MA_doItem_30 rfl hl (by decide) rfl (fun ls hl => ?_)
  refine lv_aload_n hx hb d_MA_doItem_31 rfl (lv_at hl 1 rfl) ?_
  refine lv_iload_n hx hb d_MA_doItem_32 rfl (lv_at hl 2 rfl) ?_
  refine r_r (post := fun i S1 => i = 11 + 4 * p ∧ S1 = su S 1 5 (nI (gst s.1 + 1))) hC hS (r_runV (np := 1) (As := [.int (nI q)]) (rest := []) hx hb hml hC hP hS (by decide) rfl rfl (m_MA_textOf l G (su S 1 5 (nI (gst s.1 + 1))) q p hq hp ((su_k _ _ (by omega)).trans hpr)) l_MA_113 im_MA_textOf se_MA_textOf in_MA c_MA_textOf_in (by decide +kernel) ⟨by simp only [rmF]; omega, by simp only [rmF]; omega⟩ rfl hl.1 (Nat.le_of_ble_eq_true rfl) d_MA_doItem_33 ⟨Nat.le_refl _, Nat.le_refl _⟩) (fun i_33 S_33 H locs hw hP hS => ?_)
  obtain ⟨rfl, hSe⟩ := hw
  rw [hSe] at hP
  refine lv_astore (lv' := [(4, .ref (gA G (11 + 4 * p))), (3, .ref (gA G (27 + 2 * q))), (0, .ref (gA G 1)), (1, .int (nI q)), (2, .int (nI i))]) hx hb d_MA_doItem_36 hl (by decide) rfl (fun ls hl => ?_)
  refine lv_aload hx hb d_MA_doItem_38 (lv_at hl 0 rfl) ?_
  refine r_getN hx hb hC hP i_TE (11 + 4 * p) (by omega) (sh_T G _ hp) rfl 1 (by decide) k_MA_130 rfl d_MA_doItem_40 ?_
  refine lv_iload_n hx hb d_MA_doItem_43 rfl (lv_at hl 4 rfl) ?_
  refine r_ild hx hb hC hP (13 + 4 * p) (by omega) (sh_T2 G _ hp) i rfl (by omega) (by decide) d_MA_doItem_44 ?_
  rw [show (su S 1 5 (nI (gst s.1 + 1))) (13 + 4 * p) i = S (13 + 4 * p) i from by rw [su_cell _ _ _ (by omega)]]
  rw [show S (13 + 4 * p) i = nI pr from (((hok.1 p hp).2.2 i hi).2.1.trans har)]
  refine lv_istore (lv' := [(5, .int (nI pr)), (4, .ref (gA G (11 + 4 * p))), (3, .ref (gA G (27 + 2 * q))), (0, .ref (gA G 1)), (1, .int (nI q)), (2, .int (nI i))]) hx hb d_MA_doItem_45 hl (by decide) rfl (fun ls hl => ?_)
  refine lv_aload hx hb d_MA_doItem_47 (lv_at hl 1 rfl) ?_
  refine r_getN hx hb hC hP i_TE (11 + 4 * p) (by omega) (sh_T G _ hp) rfl 0 (by decide) k_MA_133 rfl d_MA_doItem_49 ?_
  refine lv_iload_n hx hb d_MA_doItem_52 rfl (lv_at hl 5 rfl) ?_
  refine r_ild hx hb hC hP (12 + 4 * p) (by omega) (sh_T1 G _ hp) i rfl (by omega) (by decide) d_MA_doItem_53 ?_
  rw [show (su S 1 5 (nI (gst s.1 + 1))) (12 + 4 * p) i = S (12 + 4 * p) i from by rw [su_cell _ _ _ (by omega)]]
  rw [show S (12 + 4 * p) i = 13 from (((hok.1 p hp).2.2 i hi).1.trans hop)]
  refine lv_tableIn (off := 199) (tgt := 253) hx hb d_MA_doItem_54 (by decide) (by decide) (by decide) (by decide) ?_
  refine lv_aload_n hx hb d_MA_doItem_253 rfl (lv_at hl 3 rfl) ?_
  refine lv_iload_n hx hb d_MA_doItem_254 rfl (lv_at hl 4 rfl) ?_
  refine lv_iload hx hb d_MA_doItem_255 (lv_at hl 0 rfl) ?_
  refine r_e (post := fun e S1 => BlkP (su S 1 5 (nI (gst s.1 + 1))) S1 q p c (gnf s.1) e (rFa (gStep s.1) 5 0 s.2.1 s.2.2)) hC hS (r_runV (np := 2) (As := [.int (nI q), .int (nI pr)]) (rest := []) hx hb hml hC hP hS (by decide) rfl rfl (m_MA_doCallD l G (su S 1 5 (nI (gst s.1 + 1))) op ar E sz q p c (gStep s.1, s.2.1, s.2.2) hq hp hok0 hsl pr hq5) l_MA_169 im_MA_doCall se_MA_doCall in_MA c_MA_doCall_in (by decide +kernel) ⟨by simp only [rmF]; omega, by simp only [rmF]; omega⟩ rfl hl.1 (Nat.le_of_ble_eq_true rfl) d_MA_doItem_257 ⟨Nat.le_refl _, Nat.le_refl _⟩) (fun i_257 S_257 H locs hi_257 hw hP hS => ?_)
  have hw_257 := hw
  exact e_e (post := fun e S1 => BlkP S S1 q p c (gnf s.1) e (sI op ar E sz (sB op ar E sz F) q c (32 * p + i) s)) hx hb hr hlk hC hP hS d_MA_doItem_260 hi_257 (by unfold sI; rw [if_neg hlt]; unfold sItem; rw [hop, if_neg (by decide), if_neg (by decide), if_neg (by decide), if_neg (by decide), if_neg (by decide), if_neg (by decide), if_neg (by decide), if_neg (by decide), if_neg (by decide), if_neg (by decide), if_neg (by decide), if_neg (by decide), if_neg (by decide), if_pos rfl]; rw [if_pos hq5]; exact hw_257.pre hkb0)

set_option maxHeartbeats 4000000 in
set_option maxRecDepth 100000 in
theorem m_MA_doItem_call (l : Launch) (G : WG) (S : SS) (op ar : Nat → Int32) (E sz : Nat → Nat) (F q p c i : Nat) (s : SG) (hq : q < 6) (hp : p < 4) (hi : i < sz p) (hok : OKs S op ar E sz q p c s) (hlt : ¬ 300 ≤ gst s.1) (hop : op (32 * p + i) = 13) (pr : Nat) (hpr4 : pr < 4) (har : ar (32 * p + i) = nI pr) (h : Nat) (hq5 : q < 5) (hPr : DoP l G op ar E sz F h (q + 1) pr) (hh : Nat) (hhh : (h + 3) ≤ hh) : Ce l y_MA_doItem b_MA_doItem 6 hh G [.ref (gA G 1), .int (nI q), .int (nI i)] S (fun e S1 => BlkP S S1 q p c (gnf s.1) e (sI op ar E sz (sB op ar E sz F) q c (32 * p + i) s)) := by
  have hst3 := hok.2.1.1.2.1
  have hpr := hok.2.2.1.1
  have hz32 := (hok.1 p hp).2.1
  have hok0 := hok.stp hq hlt
  have hsl := stp_sl hok
  have hkb0 := stp_kb S q (nI (gst s.1 + 1))
  refine mk l (by decide +kernel) (Nat.le_of_ble_eq_true rfl) ?_
  intro pp_ ee_ ss_ mm_ be_ me_ co_ ls hx hb hr hlk hml hC hP hS hl
  have hl : lv_has ls 6 [(0, .ref (gA G 1)), (1, .int (nI q)), (2, .int (nI i))] := hl
  refine lv_aload_n hx hb d_MA_doItem_0 rfl (lv_at hl 0 rfl) ?_
  refine r_get hx hb hC hP i_MA (1) (by decide) rfl rfl 5 (by decide) l_MA_56 rfl d_MA_doItem_1 ?_
  rw [show S 1 5 = nI (gst s.1) from hok.2.1.1.1]
  refine lv_sipush (v := 300) hx hb d_MA_doItem_4 (by decide) ?_
  refine lv_icmp_lt (tgt := 14) hx hb d_MA_doItem_7 (by decide) (fun c_7 => ?_) (fun c_7 => absurd (show gst s.1 < 300 by omega) (fun h => c_7 ((q_lt (a := gst s.1) (b := 300) rfl rfl (by omega) (by omega)).mpr h)))
  refine lv_aload_n hx hb d_MA_doItem_14 rfl (lv_at hl 0 rfl) ?_
  refine lv_dup hx hb d_MA_doItem_15 rfl ?_
  refine r_get hx hb hC hP i_MA (1) (by decide) rfl rfl 5 (by decide) l_MA_56 rfl d_MA_doItem_16 ?_
  rw [show S 1 5 = nI (gst s.1) from hok.2.1.1.1]
  refine lv_iconst (v := 1) hx hb d_MA_doItem_19 (by decide) ?_
  refine lv_iadd hx hb d_MA_doItem_20 ?_
  rw [show (nI (gst s.1)) + 1 = nI (gst s.1 + 1) from nI_1 _]
  refine r_put hx hb hC hP hS i_MA t_MA t_MA_ok n_MA (1) (by decide) rfl rfl 5 (by decide) l_MA_56 rfl rfl rfl (Nat.le_of_ble_eq_true rfl) d_MA_doItem_21 (fun H locs hP hS => ?_)
  refine lv_aload_n hx hb d_MA_doItem_24 rfl (lv_at hl 0 rfl) ?_
  refine r_get hx hb hC hP i_MA (1) (by decide) rfl rfl 1 (by decide) l_MA_19 rfl d_MA_doItem_25 ?_
  refine lv_iload_n hx hb d_MA_doItem_28 rfl (lv_at hl 1 rfl) ?_
  refine r_frame hx hb hC hP q rfl (by omega) d_MA_doItem_29 ?_
  refine lv_astore_n (lv' := [(3, .ref (gA G (27 + 2 * q))), (0, .ref (gA G 1)), (1, .int (nI q)), (2, .int (nI i))]) hx hb d_MA_doItem_30 rfl hl (by decide) rfl (fun ls hl => ?_)
  refine lv_aload_n hx hb d_MA_doItem_31 rfl (lv_at hl 1 rfl) ?_
  refine lv_iload_n hx hb d_MA_doItem_32 rfl (lv_at hl 2 rfl) ?_
  refine r_r (post := fun i S1 => i = 11 + 4 * p ∧ S1 = su S 1 5 (nI (gst s.1 + 1))) hC hS (r_runV (np := 1) (As := [.int (nI q)]) (rest := []) hx hb hml hC hP hS (by decide) rfl rfl (m_MA_textOf l G (su S 1 5 (nI (gst s.1 + 1))) q p hq hp ((su_k _ _ (by omega)).trans hpr)) l_MA_113 im_MA_textOf se_MA_textOf in_MA c_MA_textOf_in (by decide +kernel) ⟨by simp only [rmF]; omega, by simp only [rmF]; omega⟩ rfl hl.1 (Nat.le_of_ble_eq_true rfl) d_MA_doItem_33 ⟨Nat.le_refl _, Nat.le_refl _⟩) (fun i_33 S_33 H locs hw hP hS => ?_)
  obtain ⟨rfl, hSe⟩ := hw
  rw [hSe] at hP
  refine lv_astore (lv' := [(4, .ref (gA G (11 + 4 * p))), (3, .ref (gA G (27 + 2 * q))), (0, .ref (gA G 1)), (1, .int (nI q)), (2, .int (nI i))]) hx hb d_MA_doItem_36 hl (by decide) rfl (fun ls hl => ?_)
  refine lv_aload hx hb d_MA_doItem_38 (lv_at hl 0 rfl) ?_
  refine r_getN hx hb hC hP i_TE (11 + 4 * p) (by omega) (sh_T G _ hp) rfl 1 (by decide) k_MA_130 rfl d_MA_doItem_40 ?_
  refine lv_iload_n hx hb d_MA_doItem_43 rfl (lv_at hl 4 rfl) ?_
  refine r_ild hx hb hC hP (13 + 4 * p) (by omega) (sh_T2 G _ hp) i rfl (by omega) (by decide) d_MA_doItem_44 ?_
  rw [show (su S 1 5 (nI (gst s.1 + 1))) (13 + 4 * p) i = S (13 + 4 * p) i from by rw [su_cell _ _ _ (by omega)]]
  rw [show S (13 + 4 * p) i = nI pr from (((hok.1 p hp).2.2 i hi).2.1.trans har)]
  refine lv_istore (lv' := [(5, .int (nI pr)), (4, .ref (gA G (11 + 4 * p))), (3, .ref (gA G (27 + 2 * q))), (0, .ref (gA G 1)), (1, .int (nI q)), (2, .int (nI i))]) hx hb d_MA_doItem_45 hl (by decide) rfl (fun ls hl => ?_)
  refine lv_aload hx hb d_MA_doItem_47 (lv_at hl 1 rfl) ?_
  refine r_getN hx hb hC hP i_TE (11 + 4 * p) (by omega) (sh_T G _ hp) rfl 0 (by decide) k_MA_133 rfl d_MA_doItem_49 ?_
  refine lv_iload_n hx hb d_MA_doItem_52 rfl (lv_at hl 5 rfl) ?_
  refine r_ild hx hb hC hP (12 + 4 * p) (by omega) (sh_T1 G _ hp) i rfl (by omega) (by decide) d_MA_doItem_53 ?_
  rw [show (su S 1 5 (nI (gst s.1 + 1))) (12 + 4 * p) i = S (12 + 4 * p) i from by rw [su_cell _ _ _ (by omega)]]
  rw [show S (12 + 4 * p) i = 13 from (((hok.1 p hp).2.2 i hi).1.trans hop)]
  refine lv_tableIn (off := 199) (tgt := 253) hx hb d_MA_doItem_54 (by decide) (by decide) (by decide) (by decide) ?_
  refine lv_aload_n hx hb d_MA_doItem_253 rfl (lv_at hl 3 rfl) ?_
  refine lv_iload_n hx hb d_MA_doItem_254 rfl (lv_at hl 4 rfl) ?_
  refine lv_iload hx hb d_MA_doItem_255 (lv_at hl 0 rfl) ?_
  refine r_e (post := fun e S1 => BlkP (su S 1 5 (nI (gst s.1 + 1))) S1 q p c (gnf s.1) e (sCall (sFin (sP0 op ar E sz F (q + 1) pr (gStep s.1, s.2.1, fun _ => 0))) s.2.1 s.2.2)) hC hS (r_runV (np := 2) (As := [.int (nI q), .int (nI pr)]) (rest := []) hx hb hml hC hP hS (by decide) rfl rfl (m_MA_doCall l G (su S 1 5 (nI (gst s.1 + 1))) op ar E sz F h q p c (gStep s.1, s.2.1, s.2.2) hq hp hok0 hsl pr hpr4 hq5 hPr (sP0_st _ _ _ _ _ _ _ (gStep s.1, s.2.1, fun _ => 0))) l_MA_169 im_MA_doCall se_MA_doCall in_MA c_MA_doCall_in (by decide +kernel) ⟨by simp only [rmF]; omega, by simp only [rmF]; omega⟩ rfl hl.1 (Nat.le_of_ble_eq_true rfl) d_MA_doItem_257 ⟨Nat.le_refl _, Nat.le_refl _⟩) (fun i_257 S_257 H locs hi_257 hw hP hS => ?_)
  have hw_257 := hw
  exact e_e (post := fun e S1 => BlkP S S1 q p c (gnf s.1) e (sI op ar E sz (sB op ar E sz F) q c (32 * p + i) s)) hx hb hr hlk hC hP hS d_MA_doItem_260 hi_257 (by unfold sI; rw [if_neg hlt]; unfold sItem; rw [hop, if_neg (by decide), if_neg (by decide), if_neg (by decide), if_neg (by decide), if_neg (by decide), if_neg (by decide), if_neg (by decide), if_neg (by decide), if_neg (by decide), if_neg (by decide), if_neg (by decide), if_neg (by decide), if_neg (by decide), if_pos rfl]; rw [har, nI_clamp (show pr < 2 ^ 31 by omega)]; rw [if_neg (show ¬ q = 5 by omega)]; have h8 := hw_257.pre hkb0; unfold sP0 at h8; by_cases hz : sz pr = 0; (rw [if_pos hz, sCall_e] at h8; rw [if_pos hz]; exact h8); (rw [if_neg hz] at h8; rw [if_neg hz]; exact h8))

