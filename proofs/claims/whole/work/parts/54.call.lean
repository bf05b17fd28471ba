/-! the class's doCall, the leaves of doItem: written by wip/gen/p54.py -/
theorem blk_raise {S : SS} {op ar : Nat → Int32} {E sz : Nat → Nat} {q p c : Nat} {s : SG} (h : OKs S op ar E sz q p c s) (hq : q < 6) (hs : gnf s.1 + q + 1 ≤ gst s.1) (k : Int32) {c0 : Nat} (hc0 : c0 ≤ gnf s.1) : BlkP S (mRaise S (gnf s.1) q k (nI c0 - 1)) q p c (gnf s.1) 4 (rFa s.1 k c0 s.2.1 s.2.2) := by
  obtain ⟨h1, h2, h3, h4⟩ := h
  have hst := h2.1.2.1
  have hG := h2.mk (by omega) k c0 hc0
  have hk : ∀ a b, ¬ ((a = 4 ∧ b = 2) ∨ a = 5 ∨ a = 6) → fMk S (gnf s.1) k (nI c0 - 1) a b = S a b := fun a b hab => by
    unfold fMk
    rw [su_k _ _ (by omega), su_k _ _ (by omega), su_k _ _ (by omega)]
  unfold mRaise rFa
  refine ⟨rfl, fun a b hab => by rw [su_k _ _ (by omega)]; exact hk a b (by omega), hG.1.mv (fun a b hab => su_k _ _ (by omega)), fun _ => ⟨Nat.le_succ _, hG.2.mv (fun a b hab => su_k _ _ (by omega)), ⟨?_, ?_, ?_, fun l hl => ⟨?_, (h3.2.2.2 l hl).2⟩⟩, ⟨?_, Nat.le_trans h4.2.1 (Nat.le_succ _), h4.2.2⟩, fun h9 => absurd h9 (show ¬ (4 : Nat) = 3 by decide), fun _ => ⟨(su_same _ _ _ _).trans (nI_pred _).symm, Nat.succ_pos _, Nat.le_refl _⟩⟩⟩
  · rw [su_k _ _ (by omega), hk _ _ (by omega)]; exact h3.1
  · rw [su_k _ _ (by omega), hk _ _ (by omega)]; exact h3.2.1
  · rw [su_k _ _ (by omega), hk _ _ (by omega)]; exact h3.2.2.1
  · rw [su_k _ _ (by omega), hk _ _ (by omega)]; exact (h3.2.2.2 l hl).1
  · show gnf s.1 + 1 + q ≤ gst s.1
    omega
theorem frBegin_k (S : SS) (q : Nat) (x y : Int32) {a b : Nat} (h : ¬ (a = 27 + 2 * q ∨ a = 28 + 2 * q)) : frBegin S q x y a b = S a b := by
  unfold frBegin
  rw [su_k _ _ (by omega), su_k _ _ (by omega), su_k _ _ (by omega), su_k _ _ (by omega), su_k _ _ (by omega), su_k _ _ (by omega), su_k _ _ (by omega)]
theorem frBegin_rf (S : SS) (q p : Nat) (ac : Int32) : RF (frBegin S q (nI p) ac) q p 0 ac (fun _ => 0) := by
  refine ⟨?_, ?_, ?_, fun l hl => ⟨?_, Nat.zero_le _⟩⟩
  · unfold frBegin
    rw [su_k _ _ (by omega), su_k _ _ (by omega), su_k _ _ (by omega), su_k _ _ (by omega), su_k _ _ (by omega), su_k _ _ (by omega), su_same]
  · unfold frBegin
    rw [su_k _ _ (by omega), su_k _ _ (by omega), su_k _ _ (by omega), su_k _ _ (by omega), su_k _ _ (by omega), su_same]
  · unfold frBegin
    rw [su_k _ _ (by omega), su_k _ _ (by omega), su_k _ _ (by omega), su_same]
    rfl
  · unfold frBegin
    rcases (show l = 0 ∨ l = 1 ∨ l = 2 by omega) with rfl | rfl | rfl
    · rw [su_k _ _ (by omega), su_k _ _ (by omega), su_same]; rfl
    · rw [su_k _ _ (by omega), su_same]; rfl
    · rw [su_same]; rfl
theorem OKs.call {S : SS} {op ar : Nat → Int32} {E sz : Nat → Nat} {q p c : Nat} {s : SG} (h : OKs S op ar E sz q p c s) (hs : gnf s.1 + q + 1 ≤ gst s.1) (pr : Nat) : OKs (frBegin S (q + 1) (nI pr) s.2.1) op ar E sz (q + 1) pr 0 (s.1, s.2.1, fun _ => 0) := by
  obtain ⟨h1, h2, h3, h4⟩ := h
  refine ⟨fun p2 hp2 => ?_, ⟨h2.1.mv (fun a b hab => frBegin_k _ _ _ _ (by omega)), h2.2.mv (fun a b hab => frBegin_k _ _ _ _ (by omega))⟩, frBegin_rf _ _ _ _, ?_, Nat.zero_le _, fun l hl => Nat.zero_le _⟩
  · obtain ⟨e1, e2, e3⟩ := h1 p2 hp2
    refine ⟨(frBegin_k _ _ _ _ (by omega)).trans e1, e2, fun i hi => ?_⟩
    obtain ⟨f1, f2, f3, f4⟩ := e3 i hi
    exact ⟨(frBegin_k _ _ _ _ (by omega)).trans f1, (frBegin_k _ _ _ _ (by omega)).trans f2, (frBegin_k _ _ _ _ (by omega)).trans f3, f4⟩
  · show gnf s.1 + (q + 1) ≤ gst s.1
    omega
theorem call_kb {S S1 : SS} {q n0 e : Nat} {pr : Int32} {x : Int32} {u : Nat × Int32 × Nat × GS} (hq5 : q < 5) (h : ProcP (frBegin S (q + 1) pr x) S1 (q + 1) n0 e u) : ∀ a b, (a = 1 ∧ ¬ b = 5) ∨ a = 0 ∨ (11 ≤ a ∧ a < 29 + 2 * q) ∨ 39 ≤ a → S1 a b = S a b := fun a b hab => (h.2.1 a b (by omega)).trans (frBegin_k _ _ _ _ (by omega))
theorem call5 {S S1 : SS} {q p c n0 e : Nat} {pr x : Int32} {u : Nat × Int32 × Nat × GS} {ac : Int32} {en : Nat → Nat} (hq5 : q < 5) (h : ProcP (frBegin S (q + 1) pr x) S1 (q + 1) n0 e u) (h5 : e = 5) : BlkP S S1 q p c n0 e (sCall u ac en) := by
  have hk := call_kb hq5 h
  obtain ⟨h1, h2, h3, -⟩ := h
  subst h1
  unfold sCall
  rw [if_pos h5]
  exact ⟨h5, fun a b hab => hk a b (by omega), h3, fun h9 => absurd rfl h9⟩
theorem call4 {S S1 : SS} {op ar : Nat → Int32} {E sz : Nat → Nat} {q p c n0 e : Nat} {pr x : Int32} {u : Nat × Int32 × Nat × GS} {s : SG} (hq5 : q < 5) (hok : OKs S op ar E sz q p c s) (hn0 : n0 = gnf s.1) (h : ProcP (frBegin S (q + 1) pr x) S1 (q + 1) n0 e u) (h4 : e = 4) (hst : gst s.1 ≤ gst u.2.2.2) : BlkP S (su S1 (27 + 2 * q) 3 (S1 (27 + 2 * (q + 1)) 3)) q p c n0 e (sCall u s.2.1 s.2.2) := by
  have hk := call_kb hq5 h
  obtain ⟨h1, h2, h3, h9⟩ := h
  subst h1
  obtain ⟨k0, k1, k2, k3, k4⟩ := h9 (by omega)
  obtain ⟨o1, o2, o3, o4⟩ := hok
  unfold sCall
  rw [if_neg (by omega), if_pos h4]
  refine ⟨h4, fun a b hab => by rw [su_k _ _ (by omega)]; exact hk a b (by omega), h3.mv (fun a b hab => su_k _ _ (by omega)), fun _ => ⟨k0, k1.mv (fun a b hab => su_k _ _ (by omega)), ⟨?_, ?_, ?_, fun l hl => ⟨?_, (o3.2.2.2 l hl).2⟩⟩, ⟨by show gnf u.2.2.2 + q ≤ gst u.2.2.2; omega, by show c ≤ gnf u.2.2.2; exact Nat.le_trans o4.2.1 (hn0 ▸ k0), fun l hl => Nat.le_trans (o4.2.2 l hl) hst⟩, fun h8 => absurd h8 (show ¬ (4 : Nat) = 3 by decide), fun _ => ⟨(su_same _ _ _ _).trans (k4 h4).1, (k4 h4).2⟩⟩⟩
  · rw [su_k _ _ (by omega), hk _ _ (by omega)]; exact o3.1
  · rw [su_k _ _ (by omega), hk _ _ (by omega)]; exact o3.2.1
  · rw [su_k _ _ (by omega), hk _ _ (by omega)]; exact o3.2.2.1
  · rw [su_k _ _ (by omega), hk _ _ (by omega)]; exact (o3.2.2.2 l hl).1
theorem call3 {S S1 : SS} {op ar : Nat → Int32} {E sz : Nat → Nat} {q p c n0 e : Nat} {pr x : Int32} {u : Nat × Int32 × Nat × GS} {s : SG} (hq5 : q < 5) (hok : OKs S op ar E sz q p c s) (hn0 : n0 = gnf s.1) (h : ProcP (frBegin S (q + 1) pr x) S1 (q + 1) n0 e u) (h3' : e = 3) (hst : gst s.1 ≤ gst u.2.2.2) : BlkP S (su S1 (27 + 2 * q) 2 (S1 (27 + 2 * (q + 1)) 3)) q p c n0 0 (sCall u s.2.1 s.2.2) := by
  have hk := call_kb hq5 h
  obtain ⟨h1, h2, h3, h9⟩ := h
  subst h1
  obtain ⟨k0, k1, k2, k3, k4⟩ := h9 (by omega)
  obtain ⟨o1, o2, o3, o4⟩ := hok
  unfold sCall
  rw [if_neg (by omega), if_neg (by omega)]
  refine ⟨rfl, fun a b hab => by rw [su_k _ _ (by omega)]; exact hk a b (by omega), h3.mv (fun a b hab => su_k _ _ (by omega)), fun _ => ⟨k0, k1.mv (fun a b hab => su_k _ _ (by omega)), ⟨?_, ?_, ?_, fun l hl => ⟨?_, (o3.2.2.2 l hl).2⟩⟩, ⟨by show gnf u.2.2.2 + q ≤ gst u.2.2.2; omega, by show c ≤ gnf u.2.2.2; exact Nat.le_trans o4.2.1 (hn0 ▸ k0), fun l hl => Nat.le_trans (o4.2.2 l hl) hst⟩, fun h8 => absurd h8 (show ¬ (0 : Nat) = 3 by decide), fun h8 => absurd h8 (show ¬ (0 : Nat) = 4 by decide)⟩⟩
  · rw [su_k _ _ (by omega), hk _ _ (by omega)]; exact o3.1
  · exact (su_same _ _ _ _).trans (k3 h3')
  · rw [su_k _ _ (by omega), hk _ _ (by omega)]; exact o3.2.2.1
  · rw [su_k _ _ (by omega), hk _ _ (by omega)]; exact (o3.2.2.2 l hl).1
set_option maxHeartbeats 4000000 in
set_option maxRecDepth 100000 in
theorem m_MA_doCallD (l : Launch) (G : WG) (S : SS) (op ar : Nat → Int32) (E sz : Nat → Nat) (q p c : Nat) (s : SG) (hq : q < 6) (hp : p < 4) (hok : OKs S op ar E sz q p c s) (hs : gnf s.1 + q + 1 ≤ gst s.1) (pr : Nat) (hq5 : q = 5) : Ce l y_MA_doCall b_MA_doCall 6 2 G [.ref (gA G 1), .int (nI q), .int (nI pr)] S (fun e S1 => BlkP S S1 q p c (gnf s.1) e (rFa s.1 5 0 s.2.1 s.2.2)) := by
  have hst := hok.2.1.1.2.1
  refine mk l (by decide +kernel) (Nat.le_of_ble_eq_true rfl) ?_
  intro pp_ ee_ ss_ mm_ be_ me_ co_ ls hx hb hr hlk hml hC hP hS hl
  have hl : lv_has ls 6 [(0, .ref (gA G 1)), (1, .int (nI q)), (2, .int (nI pr))] := hl
  refine lv_aload_n hx hb d_MA_doCall_0 rfl (lv_at hl 0 rfl) ?_
  refine r_get hx hb hC hP i_MA (1) (by decide) rfl rfl 1 (by decide) l_MA_19 rfl d_MA_doCall_1 ?_
  refine lv_iload_n hx hb d_MA_doCall_4 rfl (lv_at hl 1 rfl) ?_
  refine r_frame hx hb hC hP q rfl (by omega) d_MA_doCall_5 ?_
  refine lv_astore_n (lv' := [(3, .ref (gA G (27 + 2 * q))), (0, .ref (gA G 1)), (1, .int (nI q)), (2, .int (nI pr))]) hx hb d_MA_doCall_6 rfl hl (by decide) rfl (fun ls hl => ?_)
  refine lv_iload_n hx hb d_MA_doCall_7 rfl (lv_at hl 2 rfl) ?_
  refine lv_iconst (v := 5) hx hb d_MA_doCall_8 (by decide) ?_
  refine lv_icmp_lt (tgt := 20) hx hb d_MA_doCall_9 (by decide) (fun c_9 => absurd ((q_lt (a := q) (b := 5) rfl rfl (by omega) (by omega)).mp c_9) (by omega)) (fun c_9 => ?_)
  refine lv_aload_n hx hb d_MA_doCall_12 rfl (lv_at hl 1 rfl) ?_
  refine lv_aload_n hx hb d_MA_doCall_13 rfl (lv_at hl 0 rfl) ?_
  refine lv_iconst (v := 5) hx hb d_MA_doCall_14 (by decide) ?_
  refine lv_iconst (v := (-1)) hx hb d_MA_doCall_15 (by decide) ?_
  refine r_e (post := fun e S1 => e = 4 ∧ S1 = mRaise S (gnf s.1) q 5 (-1)) hC hS (r_runV (np := 3) (As := [.ref (gA G (27 + 2 * q)), .int 5, .int (-1)]) (rest := []) hx hb hml hC hP hS (by decide) rfl rfl (m_MA_raise l G S (gnf s.1) q (by omega) hq hok.2.1.1.2.2.2.2.2.2.1 5 (-1)) l_MA_99 im_MA_raise se_MA_raise in_MA c_MA_raise_in (by decide +kernel) ⟨by simp only [rmF]; omega, by simp only [rmF]; omega⟩ rfl hl.1 (Nat.le_of_ble_eq_true rfl) d_MA_doCall_16 ⟨Nat.le_refl _, Nat.le_refl _⟩) (fun i_16 S_16 H locs hi_16 hw hP hS => ?_)
  obtain ⟨rfl, hSe⟩ := hw
  rw [hSe] at hP
  exact e_e (post := fun e S1 => BlkP S S1 q p c (gnf s.1) e (rFa s.1 5 0 s.2.1 s.2.2)) hx hb hr hlk hC hP hS d_MA_doCall_19 (by decide) (blk_raise hok hq hs 5 (c0 := 0) (Nat.zero_le _))

section DOQ
variable (l : Launch) (G : WG) (op ar : Nat → Int32) (E sz : Nat → Nat)
/-- the contract of doProcedure at level q for text p -/
def DoP (F h q p : Nat) : Prop := ∀ (S : SS) (s : SG), OKs S op ar E sz q p 0 s → Ce l y_MA_doProcedure b_MA_doProcedure 4 h G [.ref (gA G 1), .int (nI q)] S (fun e S1 => ProcP S S1 q (gnf s.1) e (sFin (sP0 op ar E sz F q p s)))
end DOQ
theorem sFin_or (r : RR) : (sFin r).1 = 3 ∨ (sFin r).1 = 4 ∨ (sFin r).1 = 5 := by
  unfold sFin
  split
  · exact Or.inr (Or.inr rfl)
  · split
    · exact Or.inr (Or.inl rfl)
    · split
      · exact Or.inr (Or.inl rfl)
      · exact Or.inl rfl
theorem proc5 {S S1 : SS} {q n0 e : Nat} {r : RR} (h : ProcP S S1 q n0 e (sFin r)) (h4 : ¬ e = 4) (h3 : ¬ e = 3) : e = 5 := by
  have h1 := h.1
  rcases sFin_or r with h9 | h9 | h9 <;> rw [h9] at h1 <;> omega
set_option maxHeartbeats 4000000 in
set_option maxRecDepth 100000 in
theorem m_MA_doCall (l : Launch) (G : WG) (S : SS) (op ar : Nat → Int32) (E sz : Nat → Nat) (F h q p c : Nat) (s : SG) (hq : q < 6) (hp : p < 4) (hok : OKs S op ar E sz q p c s) (hs : gnf s.1 + q + 1 ≤ gst s.1) (pr : Nat) (hpr : pr < 4) (hq5 : q < 5) (hPr : DoP l G op ar E sz F h (q + 1) pr) (hst : gst s.1 ≤ gst (sFin (sP0 op ar E sz F (q + 1) pr (s.1, s.2.1, fun _ => 0))).2.2.2) : Ce l y_MA_doCall b_MA_doCall 6 (h + 1) G [.ref (gA G 1), .int (nI q), .int (nI pr)] S (fun e S1 => BlkP S S1 q p c (gnf s.1) e (sCall (sFin (sP0 op ar E sz F (q + 1) pr (s.1, s.2.1, fun _ => 0))) s.2.1 s.2.2)) := by
  refine mk l (by decide +kernel) (Nat.le_of_ble_eq_true rfl) ?_
  intro pp_ ee_ ss_ mm_ be_ me_ co_ ls hx hb hr hlk hml hC hP hS hl
  have hl : lv_has ls 6 [(0, .ref (gA G 1)), (1, .int (nI q)), (2, .int (nI pr))] := hl
  refine lv_aload_n hx hb d_MA_doCall_0 rfl (lv_at hl 0 rfl) ?_
  refine r_get hx hb hC hP i_MA (1) (by decide) rfl rfl 1 (by decide) l_MA_19 rfl d_MA_doCall_1 ?_
  refine lv_iload_n hx hb d_MA_doCall_4 rfl (lv_at hl 1 rfl) ?_
  refine r_frame hx hb hC hP q rfl (by omega) d_MA_doCall_5 ?_
  refine lv_astore_n (lv' := [(3, .ref (gA G (27 + 2 * q))), (0, .ref (gA G 1)), (1, .int (nI q)), (2, .int (nI pr))]) hx hb d_MA_doCall_6 rfl hl (by decide) rfl (fun ls hl => ?_)
  refine lv_iload_n hx hb d_MA_doCall_7 rfl (lv_at hl 2 rfl) ?_
  refine lv_iconst (v := 5) hx hb d_MA_doCall_8 (by decide) ?_
  refine lv_icmp_lt (tgt := 20) hx hb d_MA_doCall_9 (by decide) (fun c_9 => ?_) (fun c_9 => absurd (show q < 5 from hq5) (fun h => c_9 ((q_lt (a := q) (b := 5) rfl rfl (by omega) (by omega)).mpr h)))
  refine lv_aload_n hx hb d_MA_doCall_20 rfl (lv_at hl 1 rfl) ?_
  refine r_get hx hb hC hP i_MA (1) (by decide) rfl rfl 1 (by decide) l_MA_19 rfl d_MA_doCall_21 ?_
  refine lv_iload_n hx hb d_MA_doCall_24 rfl (lv_at hl 2 rfl) ?_
  refine lv_iconst (v := 1) hx hb d_MA_doCall_25 (by decide) ?_
  refine lv_iadd hx hb d_MA_doCall_26 ?_
  rw [show (nI q) + 1 = nI (q + 1) from nI_1 _]
  refine r_frame hx hb hC hP (q + 1) rfl (by omega) d_MA_doCall_27 ?_
  refine lv_astore (lv' := [(4, .ref (gA G (27 + 2 * (q + 1)))), (3, .ref (gA G (27 + 2 * q))), (0, .ref (gA G 1)), (1, .int (nI q)), (2, .int (nI pr))]) hx hb d_MA_doCall_28 hl (by decide) rfl (fun ls hl => ?_)
  refine lv_aload hx hb d_MA_doCall_30 (lv_at hl 0 rfl) ?_
  refine lv_iload_n hx hb d_MA_doCall_32 rfl (lv_at hl 4 rfl) ?_
  refine lv_aload_n hx hb d_MA_doCall_33 rfl (lv_at hl 1 rfl) ?_
  refine r_getN hx hb hC hP i_FR (27 + 2 * q) (by omega) (sh_F G _ hq) rfl 2 (by decide) k_MA_89 rfl d_MA_doCall_34 ?_
  rw [show S (27 + 2 * q) 2 = s.2.1 from hok.2.2.1.2.1]
  refine r_v hC hS (r_runV (np := 2) (As := [.int (nI pr), .int s.2.1]) (rest := []) hx hb hml hC hP hS (by omega) (sh_F G _ (show q + 1 < 6 by omega)) rfl (m_FR_begin l G S (q + 1) (by omega) (nI pr) s.2.1) l_MA_59 im_FR_begin se_FR_begin in_FR c_FR_begin_in (by decide +kernel) ⟨by simp only [rmF]; omega, by simp only [rmF]; omega⟩ rfl hl.1 (Nat.le_of_ble_eq_true rfl) d_MA_doCall_37 ⟨Nat.le_refl _, Nat.le_refl _⟩) (fun S_37 H locs hw hP hS => ?_)
  rw [hw] at hP
  refine lv_aload_n hx hb d_MA_doCall_40 rfl (lv_at hl 2 rfl) ?_
  refine lv_iload_n hx hb d_MA_doCall_41 rfl (lv_at hl 3 rfl) ?_
  refine lv_iconst (v := 1) hx hb d_MA_doCall_42 (by decide) ?_
  refine lv_iadd hx hb d_MA_doCall_43 ?_
  rw [show (nI q) + 1 = nI (q + 1) from nI_1 _]
  refine r_e (post := fun e S1 => ProcP (frBegin S (q + 1) (nI pr) s.2.1) S1 (q + 1) (gnf s.1) e (sFin (sP0 op ar E sz F (q + 1) pr (s.1, s.2.1, fun _ => 0)))) hC hS (r_runV (np := 1) (As := [.int (nI (q + 1))]) (rest := []) hx hb hml hC hP hS (by decide) rfl rfl (hPr _ (s.1, s.2.1, fun _ => 0) (hok.call hs pr)) l_MA_63 im_MA_doProcedure se_MA_doProcedure in_MA c_MA_doProcedure_in (by decide +kernel) ⟨by simp only [rmF]; omega, by simp only [rmF]; omega⟩ rfl hl.1 (Nat.le_of_ble_eq_true rfl) d_MA_doCall_44 ⟨Nat.le_refl _, Nat.le_refl _⟩) (fun i_44 S_44 H locs hi_44 hw hP hS => ?_)
  have hw_44 := hw
  refine lv_astore (lv' := [(5, .ref (gE G i_44)), (4, .ref (gA G (27 + 2 * (q + 1)))), (3, .ref (gA G (27 + 2 * q))), (0, .ref (gA G 1)), (1, .int (nI q)), (2, .int (nI pr))]) hx hb d_MA_doCall_47 hl (by decide) rfl (fun ls hl => ?_)
  refine lv_aload hx hb d_MA_doCall_49 (lv_at hl 0 rfl) ?_
  refine r_enum hx hb hC hS 4 (by decide) l_MA_73 d_MA_doCall_51 ?_
  refine lv_acmp_ne (rx := some (gE G i_44)) (ry := some (gE G 4)) (tgt := 66) hx hb d_MA_doCall_54 (by decide) (fun c_54 => ?_) (fun c_54 => ?_)
  · have c_54 := gE_ne c_54
    refine lv_aload hx hb d_MA_doCall_66 (lv_at hl 0 rfl) ?_
    refine r_enum hx hb hC hS 3 (by decide) l_MA_92 d_MA_doCall_68 ?_
    refine lv_acmp_eq (rx := some (gE G i_44)) (ry := some (gE G 3)) (tgt := 77) hx hb d_MA_doCall_71 (by decide) (fun c_71 => ?_) (fun c_71 => ?_)
    · have c_71 := gE_eq hC.2.2.1 hi_44 (by decide) c_71
      refine lv_aload_n hx hb d_MA_doCall_77 rfl (lv_at hl 2 rfl) ?_
      refine lv_aload hx hb d_MA_doCall_78 (lv_at hl 1 rfl) ?_
      refine r_getN hx hb hC hP i_FR (27 + 2 * (q + 1)) (by omega) (sh_F G _ (show q + 1 < 6 by omega)) rfl 3 (by decide) k_MA_76 rfl d_MA_doCall_80 ?_
      refine r_putN hx hb hC hP hS i_FR t_FR t_FR_ok n_FR (27 + 2 * q) (by omega) (sh_F G _ hq) rfl 2 (by decide) k_MA_89 rfl rfl (by rw [sh_F G _ hq]; rfl) (Nat.le_of_ble_eq_true rfl) d_MA_doCall_83 (fun H locs hP hS => ?_)
      refine r_enum hx hb hC hS 0 (by decide) l_MA_86 d_MA_doCall_86 ?_
      exact e_e (post := fun e S1 => BlkP S S1 q p c (gnf s.1) e (sCall (sFin (sP0 op ar E sz F (q + 1) pr (s.1, s.2.1, fun _ => 0))) s.2.1 s.2.2)) hx hb hr hlk hC hP hS d_MA_doCall_89 (by decide) (call3 hq5 hok rfl hw_44 c_71 hst)
    · have c_71 := gE_ne c_71
      refine lv_aload hx hb d_MA_doCall_74 (lv_at hl 0 rfl) ?_
      exact e_e (post := fun e S1 => BlkP S S1 q p c (gnf s.1) e (sCall (sFin (sP0 op ar E sz F (q + 1) pr (s.1, s.2.1, fun _ => 0))) s.2.1 s.2.2)) hx hb hr hlk hC hP hS d_MA_doCall_76 hi_44 (call5 hq5 hw_44 (proc5 hw_44 c_54 c_71))
  · have c_54 := gE_eq hC.2.2.1 hi_44 (by decide) c_54
    refine lv_aload_n hx hb d_MA_doCall_57 rfl (lv_at hl 2 rfl) ?_
    refine lv_aload hx hb d_MA_doCall_58 (lv_at hl 1 rfl) ?_
    refine r_getN hx hb hC hP i_FR (27 + 2 * (q + 1)) (by omega) (sh_F G _ (show q + 1 < 6 by omega)) rfl 3 (by decide) k_MA_76 rfl d_MA_doCall_60 ?_
    refine r_putN hx hb hC hP hS i_FR t_FR t_FR_ok n_FR (27 + 2 * q) (by omega) (sh_F G _ hq) rfl 3 (by decide) k_MA_76 rfl rfl (by rw [sh_F G _ hq]; rfl) (Nat.le_of_ble_eq_true rfl) d_MA_doCall_63 (fun H locs hP hS => ?_)
    refine lv_aload hx hb d_MA_doCall_66 (lv_at hl 0 rfl) ?_
    refine r_enum hx hb hC hS 3 (by decide) l_MA_92 d_MA_doCall_68 ?_
    refine lv_acmp_eq (rx := some (gE G i_44)) (ry := some (gE G 3)) (tgt := 77) hx hb d_MA_doCall_71 (by decide) (fun c_71 => ?_) (fun c_71 => ?_)
    · have c_71 := gE_eq hC.2.2.1 hi_44 (by decide) c_71
      refine lv_aload_n hx hb d_MA_doCall_77 rfl (lv_at hl 2 rfl) ?_
      refine lv_aload hx hb d_MA_doCall_78 (lv_at hl 1 rfl) ?_
      refine r_getN hx hb hC hP i_FR (27 + 2 * (q + 1)) (by omega) (sh_F G _ (show q + 1 < 6 by omega)) rfl 3 (by decide) k_MA_76 rfl d_MA_doCall_80 ?_
      refine r_putN hx hb hC hP hS i_FR t_FR t_FR_ok n_FR (27 + 2 * q) (by omega) (sh_F G _ hq) rfl 2 (by decide) k_MA_89 rfl rfl (by rw [sh_F G _ hq]; rfl) (Nat.le_of_ble_eq_true rfl) d_MA_doCall_83 (fun H locs hP hS => ?_)
      refine r_enum hx hb hC hS 0 (by decide) l_MA_86 d_MA_doCall_86 ?_
      exact e_e (post := fun e S1 => BlkP S S1 q p c (gnf s.1) e (sCall (sFin (sP0 op ar E sz F (q + 1) pr (s.1, s.2.1, fun _ => 0))) s.2.1 s.2.2)) hx hb hr hlk hC hP hS d_MA_doCall_89 (by decide) (by exfalso; omega)
    · have c_71 := gE_ne c_71
      refine lv_aload hx hb d_MA_doCall_74 (lv_at hl 0 rfl) ?_
      exact e_e (post := fun e S1 => BlkP S S1 q p c (gnf s.1) e (sCall (sFin (sP0 op ar E sz F (q + 1) pr (s.1, s.2.1, fun _ => 0))) s.2.1 s.2.2)) hx hb hr hlk hC hP hS d_MA_doCall_76 hi_44 (call4 hq5 hok rfl hw_44 c_54 hst)

