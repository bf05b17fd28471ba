/-! the class's doItem by the token: written by wip/gen/p57.py -/
theorem OKs.stp {S : SS} {op ar : Nat → Int32} {E sz : Nat → Nat} {q p c : Nat} {s : SG} (h : OKs S op ar E sz q p c s) (hq : q < 6) (hlt : ¬ 300 ≤ gst s.1) : OKs (su S 1 5 (nI (gst s.1 + 1))) op ar E sz q p c (gStep s.1, s.2.1, s.2.2) := by
  obtain ⟨h1, h2, h3, h4⟩ := h
  refine ⟨fun p2 hp2 => ?_, h2.step (by omega), h3.mv (fun a b hab => su_k _ _ (by omega)), ?_, h4.2.1, fun l hl => Nat.le_succ_of_le (h4.2.2 l hl)⟩
  · obtain ⟨e1, e2, e3⟩ := h1 p2 hp2
    refine ⟨(su_k _ _ (by omega)).trans e1, e2, fun i hi => ?_⟩
    obtain ⟨f1, f2, f3, f4⟩ := e3 i hi
    exact ⟨(su_k _ _ (by omega)).trans f1, (su_k _ _ (by omega)).trans f2, (su_k _ _ (by omega)).trans f3, f4⟩
  · have := h4.1
    show gnf s.1 + q ≤ gst s.1 + 1
    omega
theorem stp_kb (S : SS) (q : Nat) (v : Int32) : Kb q (su S 1 5 v) S := fun a b hab => su_k _ _ (by omega)
theorem stp_sl {S : SS} {op ar : Nat → Int32} {E sz : Nat → Nat} {q p c : Nat} {s : SG} (h : OKs S op ar E sz q p c s) : gnf (gStep s.1) + q + 1 ≤ gst (gStep s.1) := by
  have := h.2.2.2.1
  show gnf s.1 + q + 1 ≤ gst s.1 + 1
  omega
/-- the account changes -/
theorem OKs.acc {S : SS} {op ar : Nat → Int32} {E sz : Nat → Nat} {q p c : Nat} {s : SG} (h : OKs S op ar E sz q p c s) (hq : q < 6) (v : Int32) : OKs (su S (27 + 2 * q) 2 v) op ar E sz q p c (s.1, v, s.2.2) := by
  obtain ⟨h1, ⟨h2, h2'⟩, h3, h4⟩ := h
  refine ⟨h1.kb (q := q) (fun a b hab => su_k _ _ (by omega)), ⟨h2.mv (fun a b hab => su_k _ _ (by omega)), h2'.mv (fun a b hab => su_k _ _ (by omega))⟩, ⟨(su_k _ _ (by omega)).trans h3.1, su_same _ _ _ _, (su_k _ _ (by omega)).trans h3.2.2.1, fun l hl => ⟨(su_k _ _ (by omega)).trans (h3.2.2.2 l hl).1, (h3.2.2.2 l hl).2⟩⟩, h4⟩
theorem acc_kb (S : SS) {q : Nat} (hq : q < 6) (v : Int32) : Kb q (su S (27 + 2 * q) 2 v) S := fun a b hab => su_k _ _ (by omega)
theorem blkE {S X : SS} {op ar : Nat → Int32} {E sz : Nat → Nat} {q p c n0 e : Nat} {s : SG} (h : OKs X op ar E sz q p c s) (hk : Kb q X S) (hn : n0 ≤ gnf s.1) (h3 : ¬ e = 3) (h4 : ¬ e = 4) : BlkP S X q p c n0 e (e, 0, 0, s) :=
  ⟨rfl, hk, h.2.1.1, fun _ => ⟨hn, h.2.1.2, h.2.2.1, h.2.2.2, fun h9 => absurd h9 h3, fun h9 => absurd h9 h4⟩⟩
theorem blkV {S X : SS} {op ar : Nat → Int32} {E sz : Nat → Nat} {q p c n0 : Nat} {s : SG} (h : OKs X op ar E sz q p c s) (hq : q < 6) (hk : Kb q X S) (hn : n0 ≤ gnf s.1) (v : Int32) : BlkP S (su X (27 + 2 * q) 3 v) q p c n0 3 (3, v, 0, s) := by
  obtain ⟨h1, ⟨h2, h2'⟩, h3, h4⟩ := h
  exact ⟨rfl, fun a b hab => (su_k _ _ (by omega)).trans (hk a b hab), h2.mv (fun a b hab => su_k _ _ (by omega)), fun _ => ⟨hn, h2'.mv (fun a b hab => su_k _ _ (by omega)), ⟨(su_k _ _ (by omega)).trans h3.1, (su_k _ _ (by omega)).trans h3.2.1, (su_k _ _ (by omega)).trans h3.2.2.1, fun l hl => ⟨(su_k _ _ (by omega)).trans (h3.2.2.2 l hl).1, (h3.2.2.2 l hl).2⟩⟩, h4, fun _ => su_same _ _ _ _, fun h9 => absurd h9 (show ¬ (3 : Nat) = 4 by decide)⟩⟩
theorem OKs.nt {S : SS} {op ar : Nat → Int32} {E sz : Nat → Nat} {q p c : Nat} {s : SG} (h : OKs S op ar E sz q p c s) (hs : gnv s.1 + 301 ≤ 2 ^ 29 + gst s.1) (a : Int32) : OKs (eNote S (gnv s.1) a) op ar E sz q p c (gNote s.1 a, s.2.1, s.2.2) := by
  obtain ⟨h1, h2, h3, h4⟩ := h
  have hk : ∀ x y, ¬ (x = 9 ∨ x = 10) → eNote S (gnv s.1) a x y = S x y := fun x y hxy => by
    unfold eNote
    rw [su_k _ _ (by omega), su_k _ _ (by omega)]
  exact ⟨h1.kb (q := q) (fun x y hxy => hk x y (by omega)), h2.note hs a, h3.mv (fun x y hxy => hk x y (by omega)), h4⟩
theorem nt_kb (S : SS) (q n : Nat) (a : Int32) : Kb q (eNote S n a) S := fun x y hxy => by
  unfold eNote
  rw [su_k _ _ (by omega), su_k _ _ (by omega)]
theorem OKs.ent {S : SS} {op ar : Nat → Int32} {E sz : Nat → Nat} {q p c : Nat} {s : SG} (h : OKs S op ar E sz q p c s) (hq : q < 6) {l : Nat} (hl : l < 3) (hs : s.2.2 l + 1 ≤ gst s.1) : OKs (mEnter S q l) op ar E sz q p c (gHold s.1 l, s.2.1, va_up s.2.2 l (s.2.2 l + 1)) := by
  have h0 : OKs (su S (28 + 2 * q) l (S (28 + 2 * q) l + 1)) op ar E sz q p c (s.1, s.2.1, va_up s.2.2 l (s.2.2 l + 1)) := by
    obtain ⟨h1, ⟨h2, h2'⟩, h3, h4⟩ := h
    refine ⟨h1.kb (q := q) (fun a b hab => su_k _ _ (by omega)), ⟨h2.mv (fun a b hab => su_k _ _ (by omega)), h2'.mv (fun a b hab => su_k _ _ (by omega))⟩, ⟨(su_k _ _ (by omega)).trans h3.1, (su_k _ _ (by omega)).trans h3.2.1, (su_k _ _ (by omega)).trans h3.2.2.1, fun l2 hl2 => ?_⟩, h4.1, h4.2.1, fun l2 hl2 => ?_⟩
    · have hst := h2.2.1
      show _ = nI (va_up s.2.2 l (s.2.2 l + 1) l2) ∧ va_up s.2.2 l (s.2.2 l + 1) l2 ≤ 300
      by_cases e : l2 = l
      · subst e
        rw [su_same, va_up_self, (h3.2.2.2 l2 hl2).1, nI_1]
        exact ⟨rfl, by omega⟩
      · rw [su_k _ _ (by omega), va_up_ne _ _ e]
        exact h3.2.2.2 l2 hl2
    · show va_up s.2.2 l (s.2.2 l + 1) l2 ≤ gst s.1
      by_cases e : l2 = l
      · subst e
        rw [va_up_self]; exact hs
      · rw [va_up_ne _ _ e]; exact h4.2.2 l2 hl2
  exact h0.hold hl
theorem ent_kb (S : SS) {q : Nat} (hq : q < 6) (l : Nat) : Kb q (mEnter S q l) S := fun a b hab => by
  unfold mEnter
  rw [lHold_kb _ q l a b hab, su_k _ _ (by omega)]
set_option maxHeartbeats 4000000 in
set_option maxRecDepth 100000 in
theorem m_MA_doItem_late (l : Launch) (G : WG) (S : SS) (op ar : Nat → Int32) (E sz : Nat → Nat) (F q p c i : Nat) (s : SG) (hq : q < 6) (hp : p < 4) (hi : i < sz p) (hok : OKs S op ar E sz q p c s) (hlt : 300 ≤ gst s.1) (hh : Nat) (hhh : 4 ≤ hh) : Ce l y_MA_doItem b_MA_doItem 6 hh G [.ref (gA G 1), .int (nI q), .int (nI i)] S (fun e S1 => BlkP S S1 q p c (gnf s.1) e (sI op ar E sz (sB op ar E sz F) q c (32 * p + i) s)) := by
  have hst3 := hok.2.1.1.2.1
  have hpr := hok.2.2.1.1
  have hz32 := (hok.1 p hp).2.1
  refine mk l (by decide +kernel) (Nat.le_of_ble_eq_true rfl) ?_
  intro pp_ ee_ ss_ mm_ be_ me_ co_ ls hx hb hr hlk hml hC hP hS hl
  have hl : lv_has ls 6 [(0, .ref (gA G 1)), (1, .int (nI q)), (2, .int (nI i))] := hl
  refine lv_aload_n hx hb d_MA_doItem_0 rfl (lv_at hl 0 rfl) ?_
  refine r_get hx hb hC hP i_MA (1) (by decide) rfl rfl 5 (by decide) l_MA_56 rfl d_MA_doItem_1 ?_
  rw [show S 1 5 = nI (gst s.1) from hok.2.1.1.1]
  refine lv_sipush (v := 300) hx hb d_MA_doItem_4 (by decide) ?_
  refine lv_icmp_lt (tgt := 14) hx hb d_MA_doItem_7 (by decide) (fun c_7 => absurd ((q_lt (a := gst s.1) (b := 300) rfl rfl (by omega) (by omega)).mp c_7) (by omega)) (fun c_7 => ?_)
  refine r_enum hx hb hC hS 5 (by decide) l_MA_67 d_MA_doItem_10 ?_
  exact e_e (post := fun e S1 => BlkP S S1 q p c (gnf s.1) e (sI op ar E sz (sB op ar E sz F) q c (32 * p + i) s)) hx hb hr hlk hC hP hS d_MA_doItem_13 (by decide) (by unfold sI; rw [if_pos hlt]; exact ⟨rfl, Kb.rf q S, hok.2.1.1, fun h9 => absurd rfl h9⟩)

set_option maxHeartbeats 4000000 in
set_option maxRecDepth 100000 in
theorem m_MA_doItem_note (l : Launch) (G : WG) (S : SS) (op ar : Nat → Int32) (E sz : Nat → Nat) (F q p c i : Nat) (s : SG) (hq : q < 6) (hp : p < 4) (hi : i < sz p) (hok : OKs S op ar E sz q p c s) (hlt : ¬ 300 ≤ gst s.1) (hop : op (32 * p + i) = 0) (hh : Nat) (hhh : 4 ≤ hh) : Ce l y_MA_doItem b_MA_doItem 6 hh G [.ref (gA G 1), .int (nI q), .int (nI i)] S (fun e S1 => BlkP S S1 q p c (gnf s.1) e (sI op ar E sz (sB op ar E sz F) q c (32 * p + i) s)) := by
  have hst3 := hok.2.1.1.2.1
  have hpr := hok.2.2.1.1
  have hz32 := (hok.1 p hp).2.1
  have hok0 := hok.stp hq hlt
  have hsl := stp_sl hok
  have hkb0 := stp_kb S q (nI (gst s.1 + 1))
  refine mk l (by decide +kernel) (Nat.le_of_ble_eq_true rfl) ?_
  intro pp_ ee_ ss_ mm_ be_ me_ co_ ls hx hb hr hlk hml hC hP hS hl
  have hl : lv_has ls 6 [(0, .ref (gA G 1)), (1, .int (nI q)), (2, .int (nI i))] := hl
  refine lv_aload_n hx hb d_MA_doItem_0 rfl (lv_at hl 0 rfl) ?_
  refine r_get hx hb hC hP i_MA (1) (by decide) rfl rfl 5 (by decide) l_MA_56 rfl d_MA_doItem_1 ?_
  rw [show S 1 5 = nI (gst s.1) from hok.2.1.1.1]
  refine lv_sipush (v := 300) hx hb d_MA_doItem_4 (by decide) ?_
  refine lv_icmp_lt (tgt := 14) hx hb d_MA_doItem_7 (by decide) (fun c_7 => ?_) (fun c_7 => absurd (show gst s.1 < 300 by omega) (fun h => c_7 ((q_lt (a := gst s.1) (b := 300) rfl rfl (by omega) (by omega)).mpr h)))
  refine lv_aload_n hx hb d_MA_doItem_14 rfl (lv_at hl 0 rfl) ?_
  refine lv_dup hx hb d_MA_doItem_15 rfl ?_
  refine r_get hx hb hC hP i_MA (1) (by decide) rfl rfl 5 (by decide) l_MA_56 rfl d_MA_doItem_16 ?_
  rw [show S 1 5 = nI (gst s.1) from hok.2.1.1.1]
  refine lv_iconst (v := 1) hx hb d_MA_doItem_19 (by decide) ?_
  refine lv_iadd hx hb d_MA_doItem_20 ?_
  rw [show (nI (gst s.1)) + 1 = nI (gst s.1 + 1) from nI_1 _]
  refine r_put hx hb hC hP hS i_MA t_MA t_MA_ok n_MA (1) (by decide) rfl rfl 5 (by decide) l_MA_56 rfl rfl rfl (Nat.le_of_ble_eq_true rfl) d_MA_doItem_21 (fun H locs hP hS => ?_)
  refine lv_aload_n hx hb d_MA_doItem_24 rfl (lv_at hl 0 rfl) ?_
  refine r_get hx hb hC hP i_MA (1) (by decide) rfl rfl 1 (by decide) l_MA_19 rfl d_MA_doItem_25 ?_
  refine lv_iload_n hx hb d_MA_doItem_28 rfl (lv_at hl 1 rfl) ?_
  refine r_frame hx hb hC hP q rfl (by omega) d_MA_doItem_29 ?_
  refine lv_astore_n (lv' := [(3, .ref (gA G (27 + 2 * q))), (0, .ref (gA G 1)), (1, .int (nI q)), (2, .int (nI i))]) hx hb d_MA_doItem_30 rfl hl (by decide) rfl (fun ls hl => ?_)
  refine lv_aload_n hx hb d_MA_doItem_31 rfl (lv_at hl 1 rfl) ?_
  refine lv_iload_n hx hb d_MA_doItem_32 rfl (lv_at hl 2 rfl) ?_
  refine r_r (post := fun i S1 => i = 11 + 4 * p ∧ S1 = su S 1 5 (nI (gst s.1 + 1))) hC hS (r_runV (np := 1) (As := [.int (nI q)]) (rest := []) hx hb hml hC hP hS (by decide) rfl rfl (m_MA_textOf l G (su S 1 5 (nI (gst s.1 + 1))) q p hq hp ((su_k _ _ (by omega)).trans hpr)) l_MA_113 im_MA_textOf se_MA_textOf in_MA c_MA_textOf_in (by decide +kernel) ⟨by simp only [rmF]; omega, by simp only [rmF]; omega⟩ rfl hl.1 (Nat.le_of_ble_eq_true rfl) d_MA_doItem_33 ⟨Nat.le_refl _, Nat.le_refl _⟩) (fun i_33 S_33 H locs hw hP hS => ?_)
  obtain ⟨rfl, hSe⟩ := hw
  rw [hSe] at hP
  refine lv_astore (lv' := [(4, .ref (gA G (11 + 4 * p))), (3, .ref (gA G (27 + 2 * q))), (0, .ref (gA G 1)), (1, .int (nI q)), (2, .int (nI i))]) hx hb d_MA_doItem_36 hl (by decide) rfl (fun ls hl => ?_)
  refine lv_aload hx hb d_MA_doItem_38 (lv_at hl 0 rfl) ?_
  refine r_getN hx hb hC hP i_TE (11 + 4 * p) (by omega) (sh_T G _ hp) rfl 1 (by decide) k_MA_130 rfl d_MA_doItem_40 ?_
  refine lv_iload_n hx hb d_MA_doItem_43 rfl (lv_at hl 4 rfl) ?_
  refine r_ild hx hb hC hP (13 + 4 * p) (by omega) (sh_T2 G _ hp) i rfl (by omega) (by decide) d_MA_doItem_44 ?_
  rw [show (su S 1 5 (nI (gst s.1 + 1))) (13 + 4 * p) i = S (13 + 4 * p) i from by rw [su_cell _ _ _ (by omega)]]
  rw [show S (13 + 4 * p) i = ar (32 * p + i) from ((hok.1 p hp).2.2 i hi).2.1]
  refine lv_istore (lv' := [(5, .int (ar (32 * p + i))), (4, .ref (gA G (11 + 4 * p))), (3, .ref (gA G (27 + 2 * q))), (0, .ref (gA G 1)), (1, .int (nI q)), (2, .int (nI i))]) hx hb d_MA_doItem_45 hl (by decide) rfl (fun ls hl => ?_)
  refine lv_aload hx hb d_MA_doItem_47 (lv_at hl 1 rfl) ?_
  refine r_getN hx hb hC hP i_TE (11 + 4 * p) (by omega) (sh_T G _ hp) rfl 0 (by decide) k_MA_133 rfl d_MA_doItem_49 ?_
  refine lv_iload_n hx hb d_MA_doItem_52 rfl (lv_at hl 5 rfl) ?_
  refine r_ild hx hb hC hP (12 + 4 * p) (by omega) (sh_T1 G _ hp) i rfl (by omega) (by decide) d_MA_doItem_53 ?_
  rw [show (su S 1 5 (nI (gst s.1 + 1))) (12 + 4 * p) i = S (12 + 4 * p) i from by rw [su_cell _ _ _ (by omega)]]
  rw [show S (12 + 4 * p) i = 0 from (((hok.1 p hp).2.2 i hi).1.trans hop)]
  refine lv_tableIn (off := 78) (tgt := 132) hx hb d_MA_doItem_54 (by decide) (by decide) (by decide) (by decide) ?_
  refine lv_aload_n hx hb d_MA_doItem_132 rfl (lv_at hl 3 rfl) ?_
  refine r_get hx hb hC hP i_MA (1) (by decide) rfl rfl 4 (by decide) l_MA_40 rfl d_MA_doItem_133 ?_
  refine lv_iload hx hb d_MA_doItem_136 (lv_at hl 0 rfl) ?_
  refine r_v hC hS (r_runV (np := 1) (As := [.int (ar (32 * p + i))]) (rest := []) hx hb hml hC hP hS (by decide) rfl rfl (m_EV_note l G (su S 1 5 (nI (gst s.1 + 1))) (gnv s.1) (by have := hok.2.1.1.2.2.2.1; omega) ((su_k _ _ (by omega)).trans hok.2.1.1.2.2.1) (ar (32 * p + i))) l_MA_136 im_EV_note se_EV_note in_EV c_EV_note_in (by decide +kernel) ⟨by simp only [rmF]; omega, by simp only [rmF]; omega⟩ rfl hl.1 (Nat.le_of_ble_eq_true rfl) d_MA_doItem_138 ⟨Nat.le_refl _, Nat.le_refl _⟩) (fun S_138 H locs hw hP hS => ?_)
  rw [hw] at hP
  refine r_enum hx hb hC hS 0 (by decide) l_MA_86 d_MA_doItem_141 ?_
  exact e_e (post := fun e S1 => BlkP S S1 q p c (gnf s.1) e (sI op ar E sz (sB op ar E sz F) q c (32 * p + i) s)) hx hb hr hlk hC hP hS d_MA_doItem_144 (by decide) (by unfold sI; rw [if_neg hlt]; unfold sItem; rw [hop, if_pos rfl]; exact BlkP.on (hok0.nt (by have := hok.2.1.1.2.2.2.1; show gnv s.1 + 301 ≤ 2 ^ 29 + (gst s.1 + 1); omega) _) ((nt_kb _ q _ _).tr hkb0) (Nat.le_refl _))

set_option maxHeartbeats 4000000 in
set_option maxRecDepth 100000 in
theorem m_MA_doItem_add (l : Launch) (G : WG) (S : SS) (op ar : Nat → Int32) (E sz : Nat → Nat) (F q p c i : Nat) (s : SG) (hq : q < 6) (hp : p < 4) (hi : i < sz p) (hok : OKs S op ar E sz q p c s) (hlt : ¬ 300 ≤ gst s.1) (hop : op (32 * p + i) = 1) (hh : Nat) (hhh : 4 ≤ hh) : Ce l y_MA_doItem b_MA_doItem 6 hh G [.ref (gA G 1), .int (nI q), .int (nI i)] S (fun e S1 => BlkP S S1 q p c (gnf s.1) e (sI op ar E sz (sB op ar E sz F) q c (32 * p + i) s)) := by
  have hst3 := hok.2.1.1.2.1
  have hpr := hok.2.2.1.1
  have hz32 := (hok.1 p hp).2.1
  have hok0 := hok.stp hq hlt
  have hsl := stp_sl hok
  have hkb0 := stp_kb S q (nI (gst s.1 + 1))
  refine mk l (by decide +kernel) (Nat.le_of_ble_eq_true rfl) ?_
  intro pp_ ee_ ss_ mm_ be_ me_ co_ ls hx hb hr hlk hml hC hP hS hl
  have hl : lv_has ls 6 [(0, .ref (gA G 1)), (1, .int (nI q)), (2, .int (nI i))] := hl
  refine lv_aload_n hx hb d_MA_doItem_0 rfl (lv_at hl 0 rfl) ?_
  refine r_get hx hb hC hP i_MA (1) (by decide) rfl rfl 5 (by decide) l_MA_56 rfl d_MA_doItem_1 ?_
  rw [show S 1 5 = nI (gst s.1) from hok.2.1.1.1]
  refine lv_sipush (v := 300) hx hb d_MA_doItem_4 (by decide) ?_
  refine lv_icmp_lt (tgt := 14) hx hb d_MA_doItem_7 (by decide) (fun c_7 => ?_) (fun c_7 => absurd (show gst s.1 < 300 by omega) (fun h => c_7 ((q_lt (a := gst s.1) (b := 300) rfl rfl (by omega) (by omega)).mpr h)))
  refine lv_aload_n hx hb d_MA_doItem_14 rfl (lv_at hl 0 rfl) ?_
  refine lv_dup hx hb d_MA_doItem_15 rfl ?_
  refine r_get hx hb hC hP i_MA (1) (by decide) rfl rfl 5 (by decide) l_MA_56 rfl d_MA_doItem_16 ?_
  rw [show S 1 5 = nI (gst s.1) from hok.2.1.1.1]
  refine lv_iconst (v := 1) hx hb d_MA_doItem_19 (by decide) ?_
  refine lv_iadd hx hb d_MA_doItem_20 ?_
  rw [show (nI (gst s.1)) + 1 = nI (gst s.1 + 1) from nI_1 _]
  refine r_put hx hb hC hP hS i_MA t_MA t_MA_ok n_MA (1) (by decide) rfl rfl 5 (by decide) l_MA_56 rfl rfl rfl (Nat.le_of_ble_eq_true rfl) d_MA_doItem_21 (fun H locs hP hS => ?_)
  refine lv_aload_n hx hb d_MA_doItem_24 rfl (lv_at hl 0 rfl) ?_
  refine r_get hx hb hC hP i_MA (1) (by decide) rfl rfl 1 (by decide) l_MA_19 rfl d_MA_doItem_25 ?_
  refine lv_iload_n hx hb d_MA_doItem_28 rfl (lv_at hl 1 rfl) ?_
  refine r_frame hx hb hC hP q rfl (by omega) d_MA_doItem_29 ?_
  refine lv_astore_n (lv' := [(3, .ref (gA G (27 + 2 * q))), (0, .ref (gA G 1)), (1, .int (nI q)), (2, .int (nI i))]) hx hb d_MA_doItem_30 rfl hl (by decide) rfl (fun ls hl => ?_)
  refine lv_aload_n hx hb d_MA_doItem_31 rfl (lv_at hl 1 rfl) ?_
  refine lv_iload_n hx hb d_MA_doItem_32 rfl (lv_at hl 2 rfl) ?_
  refine r_r (post := fun i S1 => i = 11 + 4 * p ∧ S1 = su S 1 5 (nI (gst s.1 + 1))) hC hS (r_runV (np := 1) (As := [.int (nI q)]) (rest := []) hx hb hml hC hP hS (by decide) rfl rfl (m_MA_textOf l G (su S 1 5 (nI (gst s.1 + 1))) q p hq hp ((su_k _ _ (by omega)).trans hpr)) l_MA_113 im_MA_textOf se_MA_textOf in_MA c_MA_textOf_in (by decide +kernel) ⟨by simp only [rmF]; omega, by simp only [rmF]; omega⟩ rfl hl.1 (Nat.le_of_ble_eq_true rfl) d_MA_doItem_33 ⟨Nat.le_refl _, Nat.le_refl _⟩) (fun i_33 S_33 H locs hw hP hS => ?_)
  obtain ⟨rfl, hSe⟩ := hw
  rw [hSe] at hP
  refine lv_astore (lv' := [(4, .ref (gA G (11 + 4 * p))), (3, .ref (gA G (27 + 2 * q))), (0, .ref (gA G 1)), (1, .int (nI q)), (2, .int (nI i))]) hx hb d_MA_doItem_36 hl (by decide) rfl (fun ls hl => ?_)
  refine lv_aload hx hb d_MA_doItem_38 (lv_at hl 0 rfl) ?_
  refine r_getN hx hb hC hP i_TE (11 + 4 * p) (by omega) (sh_T G _ hp) rfl 1 (by decide) k_MA_130 rfl d_MA_doItem_40 ?_
  refine lv_iload_n hx hb d_MA_doItem_43 rfl (lv_at hl 4 rfl) ?_
  refine r_ild hx hb hC hP (13 + 4 * p) (by omega) (sh_T2 G _ hp) i rfl (by omega) (by decide) d_MA_doItem_44 ?_
  rw [show (su S 1 5 (nI (gst s.1 + 1))) (13 + 4 * p) i = S (13 + 4 * p) i from by rw [su_cell _ _ _ (by omega)]]
  rw [show S (13 + 4 * p) i = ar (32 * p + i) from ((hok.1 p hp).2.2 i hi).2.1]
  refine lv_istore (lv' := [(5, .int (ar (32 * p + i))), (4, .ref (gA G (11 + 4 * p))), (3, .ref (gA G (27 + 2 * q))), (0, .ref (gA G 1)), (1, .int (nI q)), (2, .int (nI i))]) hx hb d_MA_doItem_45 hl (by decide) rfl (fun ls hl => ?_)
  refine lv_aload hx hb d_MA_doItem_47 (lv_at hl 1 rfl) ?_
  refine r_getN hx hb hC hP i_TE (11 + 4 * p) (by omega) (sh_T G _ hp) rfl 0 (by decide) k_MA_133 rfl d_MA_doItem_49 ?_
  refine lv_iload_n hx hb d_MA_doItem_52 rfl (lv_at hl 5 rfl) ?_
  refine r_ild hx hb hC hP (12 + 4 * p) (by omega) (sh_T1 G _ hp) i rfl (by omega) (by decide) d_MA_doItem_53 ?_
  rw [show (su S 1 5 (nI (gst s.1 + 1))) (12 + 4 * p) i = S (12 + 4 * p) i from by rw [su_cell _ _ _ (by omega)]]
  rw [show S (12 + 4 * p) i = 1 from (((hok.1 p hp).2.2 i hi).1.trans hop)]
  refine lv_tableIn (off := 91) (tgt := 145) hx hb d_MA_doItem_54 (by decide) (by decide) (by decide) (by decide) ?_
  refine lv_aload_n hx hb d_MA_doItem_145 rfl (lv_at hl 2 rfl) ?_
  refine lv_dup hx hb d_MA_doItem_146 rfl ?_
  refine r_getN hx hb hC hP i_FR (27 + 2 * q) (by omega) (sh_F G _ hq) rfl 2 (by decide) k_MA_89 rfl d_MA_doItem_147 ?_
  rw [show (su S 1 5 (nI (gst s.1 + 1))) (27 + 2 * q) 2 = S (27 + 2 * q) 2 from by rw [su_cell _ _ _ (by omega)]]
  rw [show S (27 + 2 * q) 2 = s.2.1 from hok.2.2.1.2.1]
  refine lv_iload hx hb d_MA_doItem_150 (lv_at hl 0 rfl) ?_
  refine lv_iadd hx hb d_MA_doItem_152 ?_
  refine r_putN hx hb hC hP hS i_FR t_FR t_FR_ok n_FR (27 + 2 * q) (by omega) (sh_F G _ hq) rfl 2 (by decide) k_MA_89 rfl rfl (by rw [sh_F G _ hq]; rfl) (Nat.le_of_ble_eq_true rfl) d_MA_doItem_153 (fun H locs hP hS => ?_)
  refine r_enum hx hb hC hS 0 (by decide) l_MA_86 d_MA_doItem_156 ?_
  exact e_e (post := fun e S1 => BlkP S S1 q p c (gnf s.1) e (sI op ar E sz (sB op ar E sz F) q c (32 * p + i) s)) hx hb hr hlk hC hP hS d_MA_doItem_159 (by decide) (by unfold sI; rw [if_neg hlt]; unfold sItem; rw [hop, if_neg (by decide), if_pos rfl]; exact BlkP.on (hok0.acc hq _) ((acc_kb _ hq _).tr hkb0) (Nat.le_refl _))

set_option maxHeartbeats 4000000 in
set_option maxRecDepth 100000 in
theorem m_MA_doItem_break (l : Launch) (G : WG) (S : SS) (op ar : Nat → Int32) (E sz : Nat → Nat) (F q p c i : Nat) (s : SG) (hq : q < 6) (hp : p < 4) (hi : i < sz p) (hok : OKs S op ar E sz q p c s) (hlt : ¬ 300 ≤ gst s.1) (hop : op (32 * p + i) = 4) (hh : Nat) (hhh : 4 ≤ hh) : Ce l y_MA_doItem b_MA_doItem 6 hh G [.ref (gA G 1), .int (nI q), .int (nI i)] S (fun e S1 => BlkP S S1 q p c (gnf s.1) e (sI op ar E sz (sB op ar E sz F) q c (32 * p + i) s)) := by
  have hst3 := hok.2.1.1.2.1
  have hpr := hok.2.2.1.1
  have hz32 := (hok.1 p hp).2.1
  have hok0 := hok.stp hq hlt
  have hsl := stp_sl hok
  have hkb0 := stp_kb S q (nI (gst s.1 + 1))
  refine mk l (by decide +kernel) (Nat.le_of_ble_eq_true rfl) ?_
  intro pp_ ee_ ss_ mm_ be_ me_ co_ ls hx hb hr hlk hml hC hP hS hl
  have hl : lv_has ls 6 [(0, .ref (gA G 1)), (1, .int (nI q)), (2, .int (nI i))] := hl
  refine lv_aload_n hx hb d_MA_doItem_0 rfl (lv_at hl 0 rfl) ?_
  refine r_get hx hb hC hP i_MA (1) (by decide) rfl rfl 5 (by decide) l_MA_56 rfl d_MA_doItem_1 ?_
  rw [show S 1 5 = nI (gst s.1) from hok.2.1.1.1]
  refine lv_sipush (v := 300) hx hb d_MA_doItem_4 (by decide) ?_
  refine lv_icmp_lt (tgt := 14) hx hb d_MA_doItem_7 (by decide) (fun c_7 => ?_) (fun c_7 => absurd (show gst s.1 < 300 by omega) (fun h => c_7 ((q_lt (a := gst s.1) (b := 300) rfl rfl (by omega) (by omega)).mpr h)))
  refine lv_aload_n hx hb d_MA_doItem_14 rfl (lv_at hl 0 rfl) ?_
  refine lv_dup hx hb d_MA_doItem_15 rfl ?_
  refine r_get hx hb hC hP i_MA (1) (by decide) rfl rfl 5 (by decide) l_MA_56 rfl d_MA_doItem_16 ?_
  rw [show S 1 5 = nI (gst s.1) from hok.2.1.1.1]
  refine lv_iconst (v := 1) hx hb d_MA_doItem_19 (by decide) ?_
  refine lv_iadd hx hb d_MA_doItem_20 ?_
  rw [show (nI (gst s.1)) + 1 = nI (gst s.1 + 1) from nI_1 _]
  refine r_put hx hb hC hP hS i_MA t_MA t_MA_ok n_MA (1) (by decide) rfl rfl 5 (by decide) l_MA_56 rfl rfl rfl (Nat.le_of_ble_eq_true rfl) d_MA_doItem_21 (fun H locs hP hS => ?_)
  refine lv_aload_n hx hb d_MA_doItem_24 rfl (lv_at hl 0 rfl) ?_
  refine r_get hx hb hC hP i_MA (1) (by decide) rfl rfl 1 (by decide) l_MA_19 rfl d_MA_doItem_25 ?_
  refine lv_iload_n hx hb d_MA_doItem_28 rfl (lv_at hl 1 rfl) ?_
  refine r_frame hx hb hC hP q rfl (by omega) d_MA_doItem_29 ?_
  refine lv_astore_n (lv' := [(3, .ref (gA G (27 + 2 * q))), (0, .ref (gA G 1)), (1, .int (nI q)), (2, .int (nI i))]) hx hb d_MA_doItem_30 rfl hl (by decide) rfl (fun ls hl => ?_)
  refine lv_aload_n hx hb d_MA_doItem_31 rfl (lv_at hl 1 rfl) ?_
  refine lv_iload_n hx hb d_MA_doItem_32 rfl (lv_at hl 2 rfl) ?_
  refine r_r (post := fun i S1 => i = 11 + 4 * p ∧ S1 = su S 1 5 (nI (gst s.1 + 1))) hC hS (r_runV (np := 1) (As := [.int (nI q)]) (rest := []) hx hb hml hC hP hS (by decide) rfl rfl (m_MA_textOf l G (su S 1 5 (nI (gst s.1 + 1))) q p hq hp ((su_k _ _ (by omega)).trans hpr)) l_MA_113 im_MA_textOf se_MA_textOf in_MA c_MA_textOf_in (by decide +kernel) ⟨by simp only [rmF]; omega, by simp only [rmF]; omega⟩ rfl hl.1 (Nat.le_of_ble_eq_true rfl) d_MA_doItem_33 ⟨Nat.le_refl _, Nat.le_refl _⟩) (fun i_33 S_33 H locs hw hP hS => ?_)
  obtain ⟨rfl, hSe⟩ := hw
  rw [hSe] at hP
  refine lv_astore (lv' := [(4, .ref (gA G (11 + 4 * p))), (3, .ref (gA G (27 + 2 * q))), (0, .ref (gA G 1)), (1, .int (nI q)), (2, .int (nI i))]) hx hb d_MA_doItem_36 hl (by decide) rfl (fun ls hl => ?_)
  refine lv_aload hx hb d_MA_doItem_38 (lv_at hl 0 rfl) ?_
  refine r_getN hx hb hC hP i_TE (11 + 4 * p) (by omega) (sh_T G _ hp) rfl 1 (by decide) k_MA_130 rfl d_MA_doItem_40 ?_
  refine lv_iload_n hx hb d_MA_doItem_43 rfl (lv_at hl 4 rfl) ?_
  refine r_ild hx hb hC hP (13 + 4 * p) (by omega) (sh_T2 G _ hp) i rfl (by omega) (by decide) d_MA_doItem_44 ?_
  rw [show (su S 1 5 (nI (gst s.1 + 1))) (13 + 4 * p) i = S (13 + 4 * p) i from by rw [su_cell _ _ _ (by omega)]]
  rw [show S (13 + 4 * p) i = ar (32 * p + i) from ((hok.1 p hp).2.2 i hi).2.1]
  refine lv_istore (lv' := [(5, .int (ar (32 * p + i))), (4, .ref (gA G (11 + 4 * p))), (3, .ref (gA G (27 + 2 * q))), (0, .ref (gA G 1)), (1, .int (nI q)), (2, .int (nI i))]) hx hb d_MA_doItem_45 hl (by decide) rfl (fun ls hl => ?_)
  refine lv_aload hx hb d_MA_doItem_47 (lv_at hl 1 rfl) ?_
  refine r_getN hx hb hC hP i_TE (11 + 4 * p) (by omega) (sh_T G _ hp) rfl 0 (by decide) k_MA_133 rfl d_MA_doItem_49 ?_
  refine lv_iload_n hx hb d_MA_doItem_52 rfl (lv_at hl 5 rfl) ?_
  refine r_ild hx hb hC hP (12 + 4 * p) (by omega) (sh_T1 G _ hp) i rfl (by omega) (by decide) d_MA_doItem_53 ?_
  rw [show (su S 1 5 (nI (gst s.1 + 1))) (12 + 4 * p) i = S (12 + 4 * p) i from by rw [su_cell _ _ _ (by omega)]]
  rw [show S (12 + 4 * p) i = 4 from (((hok.1 p hp).2.2 i hi).1.trans hop)]
  refine lv_tableIn (off := 123) (tgt := 177) hx hb d_MA_doItem_54 (by decide) (by decide) (by decide) (by decide) ?_
  refine r_enum hx hb hC hS 1 (by decide) l_MA_148 d_MA_doItem_177 ?_
  exact e_e (post := fun e S1 => BlkP S S1 q p c (gnf s.1) e (sI op ar E sz (sB op ar E sz F) q c (32 * p + i) s)) hx hb hr hlk hC hP hS d_MA_doItem_180 (by decide) (by unfold sI; rw [if_neg hlt]; unfold sItem; rw [hop, if_neg (by decide), if_neg (by decide), if_neg (by decide), if_neg (by decide), if_pos rfl]; exact blkE hok0 hkb0 (Nat.le_refl _) (by decide) (by decide))

set_option maxHeartbeats 4000000 in
set_option maxRecDepth 100000 in
theorem m_MA_doItem_next (l : Launch) (G : WG) (S : SS) (op ar : Nat → Int32) (E sz : Nat → Nat) (F q p c i : Nat) (s : SG) (hq : q < 6) (hp : p < 4) (hi : i < sz p) (hok : OKs S op ar E sz q p c s) (hlt : ¬ 300 ≤ gst s.1) (hop : op (32 * p + i) = 5) (hh : Nat) (hhh : 4 ≤ hh) : Ce l y_MA_doItem b_MA_doItem 6 hh G [.ref (gA G 1), .int (nI q), .int (nI i)] S (fun e S1 => BlkP S S1 q p c (gnf s.1) e (sI op ar E sz (sB op ar E sz F) q c (32 * p + i) s)) := by
  have hst3 := hok.2.1.1.2.1
  have hpr := hok.2.2.1.1
  have hz32 := (hok.1 p hp).2.1
  have hok0 := hok.stp hq hlt
  have hsl := stp_sl hok
  have hkb0 := stp_kb S q (nI (gst s.1 + 1))
  refine mk l (by decide +kernel) (Nat.le_of_ble_eq_true rfl) ?_
  intro pp_ ee_ ss_ mm_ be_ me_ co_ ls hx hb hr hlk hml hC hP hS hl
  have hl : lv_has ls 6 [(0, .ref (gA G 1)), (1, .int (nI q)), (2, .int (nI i))] := hl
  refine lv_aload_n hx hb d_MA_doItem_0 rfl (lv_at hl 0 rfl) ?_
  refine r_get hx hb hC hP i_MA (1) (by decide) rfl rfl 5 (by decide) l_MA_56 rfl d_MA_doItem_1 ?_
  rw [show S 1 5 = nI (gst s.1) from hok.2.1.1.1]
  refine lv_sipush (v := 300) hx hb d_MA_doItem_4 (by decide) ?_
  refine lv_icmp_lt (tgt := 14) hx hb d_MA_doItem_7 (by decide) (fun c_7 => ?_) (fun c_7 => absurd (show gst s.1 < 300 by omega) (fun h => c_7 ((q_lt (a := gst s.1) (b := 300) rfl rfl (by omega) (by omega)).mpr h)))
  refine lv_aload_n hx hb d_MA_doItem_14 rfl (lv_at hl 0 rfl) ?_
  refine lv_dup hx hb d_MA_doItem_15 rfl ?_
  refine r_get hx hb hC hP i_MA (1) (by decide) rfl rfl 5 (by decide) l_MA_56 rfl d_MA_doItem_16 ?_
  rw [show S 1 5 = nI (gst s.1) from hok.2.1.1.1]
  refine lv_iconst (v := 1) hx hb d_MA_doItem_19 (by decide) ?_
  refine lv_iadd hx hb d_MA_doItem_20 ?_
  rw [show (nI (gst s.1)) + 1 = nI (gst s.1 + 1) from nI_1 _]
  refine r_put hx hb hC hP hS i_MA t_MA t_MA_ok n_MA (1) (by decide) rfl rfl 5 (by decide) l_MA_56 rfl rfl rfl (Nat.le_of_ble_eq_true rfl) d_MA_doItem_21 (fun H locs hP hS => ?_)
  refine lv_aload_n hx hb d_MA_doItem_24 rfl (lv_at hl 0 rfl) ?_
  refine r_get hx hb hC hP i_MA (1) (by decide) rfl rfl 1 (by decide) l_MA_19 rfl d_MA_doItem_25 ?_
  refine lv_iload_n hx hb d_MA_doItem_28 rfl (lv_at hl 1 rfl) ?_
  refine r_frame hx hb hC hP q rfl (by omega) d_MA_doItem_29 ?_
  refine lv_astore_n (lv' := [(3, .ref (gA G (27 + 2 * q))), (0, .ref (gA G 1)), (1, .int (nI q)), (2, .int (nI i))]) hx hb d_MA_doItem_30 rfl hl (by decide) rfl (fun ls hl => ?_)
  refine lv_aload_n hx hb d_MA_doItem_31 rfl (lv_at hl 1 rfl) ?_
  refine lv_iload_n hx hb d_MA_doItem_32 rfl (lv_at hl 2 rfl) ?_
  refine r_r (post := fun i S1 => i = 11 + 4 * p ∧ S1 = su S 1 5 (nI (gst s.1 + 1))) hC hS (r_runV (np := 1) (As := [.int (nI q)]) (rest := []) hx hb hml hC hP hS (by decide) rfl rfl (m_MA_textOf l G (su S 1 5 (nI (gst s.1 + 1))) q p hq hp ((su_k _ _ (by omega)).trans hpr)) l_MA_113 im_MA_textOf se_MA_textOf in_MA c_MA_textOf_in (by decide +kernel) ⟨by simp only [rmF]; omega, by simp only [rmF]; omega⟩ rfl hl.1 (Nat.le_of_ble_eq_true rfl) d_MA_doItem_33 ⟨Nat.le_refl _, Nat.le_refl _⟩) (fun i_33 S_33 H locs hw hP hS => ?_)
  obtain ⟨rfl, hSe⟩ := hw
  rw [hSe] at hP
  refine lv_astore (lv' := [(4, .ref (gA G (11 + 4 * p))), (3, .ref (gA G (27 + 2 * q))), (0, .ref (gA G 1)), (1, .int (nI q)), (2, .int (nI i))]) hx hb d_MA_doItem_36 hl (by decide) rfl (fun ls hl => ?_)
  refine lv_aload hx hb d_MA_doItem_38 (lv_at hl 0 rfl) ?_
  refine r_getN hx hb hC hP i_TE (11 + 4 * p) (by omega) (sh_T G _ hp) rfl 1 (by decide) k_MA_130 rfl d_MA_doItem_40 ?_
  refine lv_iload_n hx hb d_MA_doItem_43 rfl (lv_at hl 4 rfl) ?_
  refine r_ild hx hb hC hP (13 + 4 * p) (by omega) (sh_T2 G _ hp) i rfl (by omega) (by decide) d_MA_doItem_44 ?_
  rw [show (su S 1 5 (nI (gst s.1 + 1))) (13 + 4 * p) i = S (13 + 4 * p) i from by rw [su_cell _ _ _ (by omega)]]
  rw [show S (13 + 4 * p) i = ar (32 * p + i) from ((hok.1 p hp).2.2 i hi).2.1]
  refine lv_istore (lv' := [(5, .int (ar (32 * p + i))), (4, .ref (gA G (11 + 4 * p))), (3, .ref (gA G (27 + 2 * q))), (0, .ref (gA G 1)), (1, .int (nI q)), (2, .int (nI i))]) hx hb d_MA_doItem_45 hl (by decide) rfl (fun ls hl => ?_)
  refine lv_aload hx hb d_MA_doItem_47 (lv_at hl 1 rfl) ?_
  refine r_getN hx hb hC hP i_TE (11 + 4 * p) (by omega) (sh_T G _ hp) rfl 0 (by decide) k_MA_133 rfl d_MA_doItem_49 ?_
  refine lv_iload_n hx hb d_MA_doItem_52 rfl (lv_at hl 5 rfl) ?_
  refine r_ild hx hb hC hP (12 + 4 * p) (by omega) (sh_T1 G _ hp) i rfl (by omega) (by decide) d_MA_doItem_53 ?_
  rw [show (su S 1 5 (nI (gst s.1 + 1))) (12 + 4 * p) i = S (12 + 4 * p) i from by rw [su_cell _ _ _ (by omega)]]
  rw [show S (12 + 4 * p) i = 5 from (((hok.1 p hp).2.2 i hi).1.trans hop)]
  refine lv_tableIn (off := 127) (tgt := 181) hx hb d_MA_doItem_54 (by decide) (by decide) (by decide) (by decide) ?_
  refine r_enum hx hb hC hS 2 (by decide) l_MA_151 d_MA_doItem_181 ?_
  exact e_e (post := fun e S1 => BlkP S S1 q p c (gnf s.1) e (sI op ar E sz (sB op ar E sz F) q c (32 * p + i) s)) hx hb hr hlk hC hP hS d_MA_doItem_184 (by decide) (by unfold sI; rw [if_neg hlt]; unfold sItem; rw [hop, if_neg (by decide), if_neg (by decide), if_neg (by decide), if_neg (by decide), if_neg (by decide), if_pos rfl]; exact blkE hok0 hkb0 (Nat.le_refl _) (by decide) (by decide))

set_option maxHeartbeats 4000000 in
set_option maxRecDepth 100000 in
theorem m_MA_doItem_return (l : Launch) (G : WG) (S : SS) (op ar : Nat → Int32) (E sz : Nat → Nat) (F q p c i : Nat) (s : SG) (hq : q < 6) (hp : p < 4) (hi : i < sz p) (hok : OKs S op ar E sz q p c s) (hlt : ¬ 300 ≤ gst s.1) (hop : op (32 * p + i) = 6) (hh : Nat) (hhh : 4 ≤ hh) : Ce l y_MA_doItem b_MA_doItem 6 hh G [.ref (gA G 1), .int (nI q), .int (nI i)] S (fun e S1 => BlkP S S1 q p c (gnf s.1) e (sI op ar E sz (sB op ar E sz F) q c (32 * p + i) s)) := by
  have hst3 := hok.2.1.1.2.1
  have hpr := hok.2.2.1.1
  have hz32 := (hok.1 p hp).2.1
  have hok0 := hok.stp hq hlt
  have hsl := stp_sl hok
  have hkb0 := stp_kb S q (nI (gst s.1 + 1))
  refine mk l (by decide +kernel) (Nat.le_of_ble_eq_true rfl) ?_
  intro pp_ ee_ ss_ mm_ be_ me_ co_ ls hx hb hr hlk hml hC hP hS hl
  have hl : lv_has ls 6 [(0, .ref (gA G 1)), (1, .int (nI q)), (2, .int (nI i))] := hl
  refine lv_aload_n hx hb d_MA_doItem_0 rfl (lv_at hl 0 rfl) ?_
  refine r_get hx hb hC hP i_MA (1) (by decide) rfl rfl 5 (by decide) l_MA_56 rfl d_MA_doItem_1 ?_
  rw [show S 1 5 = nI (gst s.1) from hok.2.1.1.1]
  refine lv_sipush (v := 300) hx hb d_MA_doItem_4 (by decide) ?_
  refine lv_icmp_lt (tgt := 14) hx hb d_MA_doItem_7 (by decide) (fun c_7 => ?_) (fun c_7 => absurd (show gst s.1 < 300 by omega) (fun h => c_7 ((q_lt (a := gst s.1) (b := 300) rfl rfl (by omega) (by omega)).mpr h)))
  refine lv_aload_n hx hb d_MA_doItem_14 rfl (lv_at hl 0 rfl) ?_
  refine lv_dup hx hb d_MA_doItem_15 rfl ?_
  refine r_get hx hb hC hP i_MA (1) (by decide) rfl rfl 5 (by decide) l_MA_56 rfl d_MA_doItem_16 ?_
  rw [show S 1 5 = nI (gst s.1) from hok.2.1.1.1]
  refine lv_iconst (v := 1) hx hb d_MA_doItem_19 (by decide) ?_
  refine lv_iadd hx hb d_MA_doItem_20 ?_
  rw [show (nI (gst s.1)) + 1 = nI (gst s.1 + 1) from nI_1 _]
  refine r_put hx hb hC hP hS i_MA t_MA t_MA_ok n_MA (1) (by decide) rfl rfl 5 (by decide) l_MA_56 rfl rfl rfl (Nat.le_of_ble_eq_true rfl) d_MA_doItem_21 (fun H locs hP hS => ?_)
  refine lv_aload_n hx hb d_MA_doItem_24 rfl (lv_at hl 0 rfl) ?_
  refine r_get hx hb hC hP i_MA (1) (by decide) rfl rfl 1 (by decide) l_MA_19 rfl d_MA_doItem_25 ?_
  refine lv_iload_n hx hb d_MA_doItem_28 rfl (lv_at hl 1 rfl) ?_
  refine r_frame hx hb hC hP q rfl (by omega) d_MA_doItem_29 ?_
  refine lv_astore_n (lv' := [(3, .ref (gA G (27 + 2 * q))), (0, .ref (gA G 1)), (1, .int (nI q)), (2, .int (nI i))]) hx hb d_MA_doItem_30 rfl hl (by decide) rfl (fun ls hl => ?_)
  refine lv_aload_n hx hb d_MA_doItem_31 rfl (lv_at hl 1 rfl) ?_
  refine lv_iload_n hx hb d_MA_doItem_32 rfl (lv_at hl 2 rfl) ?_
  refine r_r (post := fun i S1 => i = 11 + 4 * p ∧ S1 = su S 1 5 (nI (gst s.1 + 1))) hC hS (r_runV (np := 1) (As := [.int (nI q)]) (rest := []) hx hb hml hC hP hS (by decide) rfl rfl (m_MA_textOf l G (su S 1 5 (nI (gst s.1 + 1))) q p hq hp ((su_k _ _ (by omega)).trans hpr)) l_MA_113 im_MA_textOf se_MA_textOf in_MA c_MA_textOf_in (by decide +kernel) ⟨by simp only [rmF]; omega, by simp only [rmF]; omega⟩ rfl hl.1 (Nat.le_of_ble_eq_true rfl) d_MA_doItem_33 ⟨Nat.le_refl _, Nat.le_refl _⟩) (fun i_33 S_33 H locs hw hP hS => ?_)
  obtain ⟨rfl, hSe⟩ := hw
  rw [hSe] at hP
  refine lv_astore (lv' := [(4, .ref (gA G (11 + 4 * p))), (3, .ref (gA G (27 + 2 * q))), (0, .ref (gA G 1)), (1, .int (nI q)), (2, .int (nI i))]) hx hb d_MA_doItem_36 hl (by decide) rfl (fun ls hl => ?_)
  refine lv_aload hx hb d_MA_doItem_38 (lv_at hl 0 rfl) ?_
  refine r_getN hx hb hC hP i_TE (11 + 4 * p) (by omega) (sh_T G _ hp) rfl 1 (by decide) k_MA_130 rfl d_MA_doItem_40 ?_
  refine lv_iload_n hx hb d_MA_doItem_43 rfl (lv_at hl 4 rfl) ?_
  refine r_ild hx hb hC hP (13 + 4 * p) (by omega) (sh_T2 G _ hp) i rfl (by omega) (by decide) d_MA_doItem_44 ?_
  rw [show (su S 1 5 (nI (gst s.1 + 1))) (13 + 4 * p) i = S (13 + 4 * p) i from by rw [su_cell _ _ _ (by omega)]]
  rw [show S (13 + 4 * p) i = ar (32 * p + i) from ((hok.1 p hp).2.2 i hi).2.1]
  refine lv_istore (lv' := [(5, .int (ar (32 * p + i))), (4, .ref (gA G (11 + 4 * p))), (3, .ref (gA G (27 + 2 * q))), (0, .ref (gA G 1)), (1, .int (nI q)), (2, .int (nI i))]) hx hb d_MA_doItem_45 hl (by decide) rfl (fun ls hl => ?_)
  refine lv_aload hx hb d_MA_doItem_47 (lv_at hl 1 rfl) ?_
  refine r_getN hx hb hC hP i_TE (11 + 4 * p) (by omega) (sh_T G _ hp) rfl 0 (by decide) k_MA_133 rfl d_MA_doItem_49 ?_
  refine lv_iload_n hx hb d_MA_doItem_52 rfl (lv_at hl 5 rfl) ?_
  refine r_ild hx hb hC hP (12 + 4 * p) (by omega) (sh_T1 G _ hp) i rfl (by omega) (by decide) d_MA_doItem_53 ?_
  rw [show (su S 1 5 (nI (gst s.1 + 1))) (12 + 4 * p) i = S (12 + 4 * p) i from by rw [su_cell _ _ _ (by omega)]]
  rw [show S (12 + 4 * p) i = 6 from (((hok.1 p hp).2.2 i hi).1.trans hop)]
  refine lv_tableIn (off := 131) (tgt := 185) hx hb d_MA_doItem_54 (by decide) (by decide) (by decide) (by decide) ?_
  refine lv_aload_n hx hb d_MA_doItem_185 rfl (lv_at hl 2 rfl) ?_
  refine lv_aload_n hx hb d_MA_doItem_186 rfl (lv_at hl 2 rfl) ?_
  refine r_getN hx hb hC hP i_FR (27 + 2 * q) (by omega) (sh_F G _ hq) rfl 2 (by decide) k_MA_89 rfl d_MA_doItem_187 ?_
  rw [show (su S 1 5 (nI (gst s.1 + 1))) (27 + 2 * q) 2 = S (27 + 2 * q) 2 from by rw [su_cell _ _ _ (by omega)]]
  rw [show S (27 + 2 * q) 2 = s.2.1 from hok.2.2.1.2.1]
  refine lv_iload hx hb d_MA_doItem_190 (lv_at hl 0 rfl) ?_
  refine lv_iadd hx hb d_MA_doItem_192 ?_
  refine r_putN hx hb hC hP hS i_FR t_FR t_FR_ok n_FR (27 + 2 * q) (by omega) (sh_F G _ hq) rfl 3 (by decide) k_MA_76 rfl rfl (by rw [sh_F G _ hq]; rfl) (Nat.le_of_ble_eq_true rfl) d_MA_doItem_193 (fun H locs hP hS => ?_)
  refine r_enum hx hb hC hS 3 (by decide) l_MA_92 d_MA_doItem_196 ?_
  exact e_e (post := fun e S1 => BlkP S S1 q p c (gnf s.1) e (sI op ar E sz (sB op ar E sz F) q c (32 * p + i) s)) hx hb hr hlk hC hP hS d_MA_doItem_199 (by decide) (by unfold sI; rw [if_neg hlt]; unfold sItem; rw [hop, if_neg (by decide), if_neg (by decide), if_neg (by decide), if_neg (by decide), if_neg (by decide), if_neg (by decide), if_pos rfl]; exact blkV hok0 hq hkb0 (Nat.le_refl _) _)

