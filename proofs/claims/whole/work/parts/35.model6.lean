/-! reference: catcher, lastOf, closeLast, closeRun, close by cases: written by wip/gen/p35.py -/
theorem TryAt.mv {S X : SS} {t nc : Nat} {la : Bool} {P : Nat → Nat} (h : TryAt S t nc la P) (h5 : X 45 = S 45) (h6 : X 46 = S 46) : TryAt X t nc la P := by
  unfold TryAt
  rw [h5, h6]
  exact h
theorem moRaise_11 (S : SS) (n : Nat) (x y : Int32) : moRaise S n x y 44 11 = 4 := by
  unfold moRaise moEnds
  rw [su_int _ _ _ (by decide), su_same]
theorem moEnter_8 (S : SS) (D : Nat) (x y z : Int32) : moEnter S D x y z 44 8 = nI (D + 1) := by
  unfold moEnter
  rw [su_int _ _ _ (by decide), su_same]
def ctF (S : SS) (en : Nat) (P : Nat → Nat) (j : Nat) : Bool := isK (S 54 en) (S 46 (P j))
set_option maxHeartbeats 4000000 in
set_option maxRecDepth 100000 in
theorem m_MO_catcher_loop (l : Launch) (G : WG) (S : SS) (t nc c en : Nat) (la : Bool) (P : Nat → Nat) (hT : TryAt S t nc la P) (hPc : ∀ j, j < nc → P j < 128) (hen7 : en < 700) (hen : S 44 12 = nI en) (hc : c ≤ nc) (hno : ∀ j, j < c → ctF S en P j = false) (hyes : c < nc → ctF S en P c = true) {pp_ : Program} {ee_ : Env} {ss_ : State} {mm_ : MethodId} {be_ : List Frame} {me_ : Method} {co_ : Code} (hx : pp_.tables.exec = Jvm.exec) (hb : co_.code = b_MO_catcher) (hr : me_.sig.returnType = (some (.int))) (hlk : me_.locks = false) (hml : co_.maxLocals = 3) (hC : CC G "EndingsLabModel" ss_ mm_ ([.ref (gA G 44), .int (nI t)] : List Value).toArray (AA G)) :
    ∀ (f : Nat) (j : Nat), j ≤ c → nc < j + f →  ∀ (H : Heap) (locs : List Loc) (ls : Array Slot), va_P (gD G) clsL (wl (gA G) 57 (fS G S)) H → va_S (AA G) ss_.heap H locs → lv_has ls 3 [(0, .ref (gA G 44)), (1, .int (nI t)), (2, .int (nI j))] → W pp_ l ee_ (rmF 3) ss_ mm_ ([.ref (gA G 44), .int (nI t)] : List Value).toArray be_ me_ co_ H locs 0 0 (MQ be_ (va_Qi (fun r S1 => (r = if c < nc then nI c else -1) ∧ S1 = S) (WD G) (AA G)) ([.ref (gA G 44), .int (nI t)] : List Value).toArray ss_ 0 0 (AA G)) (F0 mm_ 2 ls []) := by
  intro f
  induction f with
  | zero =>
    intro j hj hf H locs ls hP hS hl
    exact absurd hf (by omega)
  | succ f ih =>
    intro j hj hf H locs ls hP hS hl
    obtain ⟨ht, hnc4, hnc, hla4, h0, hs, hP9⟩ := id hT
    refine lv_iload_n hx hb d_MO_catcher_2 rfl (lv_at hl 2 rfl) ?_
    refine lv_aload_n hx hb d_MO_catcher_3 rfl (lv_at hl 0 rfl) ?_
    refine r_get hx hb hC hP i_MO (44) (by decide) rfl rfl 1 (by decide) l_MO_13 rfl d_MO_catcher_4 ?_
    refine lv_iload_n hx hb d_MO_catcher_7 rfl (lv_at hl 1 rfl) ?_
    refine r_ild hx hb hC hP (46) (by decide) rfl t rfl (by omega) (by decide) d_MO_catcher_8 ?_
    refine lv_iconst (v := 3) hx hb d_MO_catcher_9 (by decide) ?_
    refine lv_iand hx hb d_MO_catcher_10 ?_
    rw [show (S 46 t) &&& 3 = nI nc from hnc]
    refine lv_icmp_ge (tgt := 48) hx hb d_MO_catcher_11 (by decide) (fun c_11 => ?_) (fun c_11 => ?_)
    · have c_11 : nc ≤ j := (q_le (a := nc) (b := j) rfl rfl (by omega) (by omega)).mp c_11
      refine lv_iconst (v := (-1)) hx hb d_MO_catcher_48 (by decide) ?_
      exact e_i hx hb hr hlk hC hP hS d_MO_catcher_49 ⟨by rw [if_neg (by omega)], rfl⟩
    · have c_11 : ¬ nc ≤ j := fun h => c_11 ((q_le (a := nc) (b := j) rfl rfl (by omega) (by omega)).mpr h)
      have hPj := hPc j (by omega)
      refine lv_aload_n hx hb d_MO_catcher_14 rfl (lv_at hl 0 rfl) ?_
      refine r_get hx hb hC hP i_MO (44) (by decide) rfl rfl 16 (by decide) l_MO_41 rfl d_MO_catcher_15 ?_
      refine lv_aload_n hx hb d_MO_catcher_18 rfl (lv_at hl 0 rfl) ?_
      refine r_get hx hb hC hP i_MO (44) (by decide) rfl rfl 12 (by decide) l_MO_95 rfl d_MO_catcher_19 ?_
      rw [show S 44 12 = nI en from hen]
      refine r_ild hx hb hC hP (54) (by decide) rfl en rfl (by omega) (by decide) d_MO_catcher_22 ?_
      refine lv_aload_n hx hb d_MO_catcher_23 rfl (lv_at hl 0 rfl) ?_
      refine r_get hx hb hC hP i_MO (44) (by decide) rfl rfl 1 (by decide) l_MO_13 rfl d_MO_catcher_24 ?_
      refine lv_aload_n hx hb d_MO_catcher_27 rfl (lv_at hl 0 rfl) ?_
      refine lv_iload_n hx hb d_MO_catcher_28 rfl (lv_at hl 1 rfl) ?_
      refine lv_iload_n hx hb d_MO_catcher_29 rfl (lv_at hl 2 rfl) ?_
      refine r_i hC hS (r_runV (np := 2) (As := [.int (nI t), .int (nI j)]) (rest := [.ref (gA G 46), .int (S 54 en)]) hx hb hml hC hP hS (by decide) rfl rfl (m_MO_part l G S t j P (by omega) (by omega) h0 (fun j2 hj2 => hs j2 (by omega)) (fun j2 hj2 => hP9 j2 (by omega))) l_MO_82 im_MO_part se_MO_part in_MO c_MO_part_in (by decide +kernel) ⟨by simp only [rmF]; omega, by simp only [rmF]; omega⟩ rfl hl.1 (Nat.le_of_ble_eq_true rfl) d_MO_catcher_30 ⟨Nat.le_refl _, Nat.le_refl _⟩) (fun r_30 S_30 H locs hw hP hS => ?_)
      obtain ⟨rfl, hSe⟩ := hw
      rw [hSe] at hP
      refine r_ild hx hb hC hP (46) (by decide) rfl (P j) rfl (by omega) (by decide) d_MO_catcher_33 ?_
      refine r_i hC hS (r_runS (np := 2) (As := [.int (S 54 en), .int (S 46 (P j))]) (rest := []) hx hb hml hC hP hS (m_MO_is l G S (S 54 en) (S 46 (P j))) l_MO_161 st_MO_is in_MO c_MO_is_in (by decide +kernel) ⟨by simp only [rmF]; omega, by simp only [rmF]; omega⟩ rfl hl.1 (Nat.le_of_ble_eq_true rfl) d_MO_catcher_34 ⟨Nat.le_refl _, Nat.le_refl _⟩) (fun r_34 S_34 H locs hw hP hS => ?_)
      obtain ⟨rfl, hSe⟩ := hw
      rw [hSe] at hP
      refine lv_if_eq (tgt := 42) hx hb d_MO_catcher_37 (by decide) (fun c_37 => ?_) (fun c_37 => ?_)
      · have c_37 := b2i_f c_37
        have hjc : j < c := Nat.lt_of_le_of_ne hj (fun h => absurd (h ▸ hyes (by omega)) (by rw [show ctF S en P j = false from c_37]; decide))
        refine lv_iinc (v := nI (j + 1)) (lv' := [(2, .int (nI (j + 1))), (0, .ref (gA G 44)), (1, .int (nI t))]) hx hb d_MO_catcher_42 hl (k := 2) rfl (nI_1 _) (by decide) rfl (fun ls hl => ?_)
        refine lv_goto (tgt := 2) hx hb d_MO_catcher_45 (by decide) ?_
        exact ih (j + 1) (by omega) (by omega) _ _ _ hP hS (lv_sub hl [1, 2, 0] rfl)
      · have c_37 := b2i_t c_37
        have hjc : j = c := Classical.byContradiction (fun h => absurd (hno j (by omega)) (by rw [show ctF S en P j = true from c_37]; decide))
        refine lv_iload_n hx hb d_MO_catcher_40 rfl (lv_at hl 2 rfl) ?_
        exact e_i hx hb hr hlk hC hP hS d_MO_catcher_41 ⟨by rw [if_pos (by omega), hjc], rfl⟩

set_option maxHeartbeats 4000000 in
set_option maxRecDepth 100000 in
theorem m_MO_catcher (l : Launch) (G : WG) (S : SS) (t nc c en : Nat) (la : Bool) (P : Nat → Nat) (hT : TryAt S t nc la P) (hPc : ∀ j, j < nc → P j < 128) (hen7 : en < 700) (hen : S 44 12 = nI en) (hc : c ≤ nc) (hno : ∀ j, j < c → ctF S en P j = false) (hyes : c < nc → ctF S en P c = true) : Ci l y_MO_catcher b_MO_catcher 3 (some (.int)) 3 G [.ref (gA G 44), .int (nI t)] S (fun r S1 => (r = if c < nc then nI c else -1) ∧ S1 = S) := by
  refine mk l (by decide +kernel) (Nat.le_of_ble_eq_true rfl) ?_
  intro pp_ ee_ ss_ mm_ be_ me_ co_ ls hx hb hr hlk hml hC hP hS hl
  have hl : lv_has ls 3 [(0, .ref (gA G 44)), (1, .int (nI t))] := hl
  refine lv_iconst (v := 0) hx hb d_MO_catcher_0 (by decide) ?_
  refine lv_istore_n (lv' := [(2, .int 0), (0, .ref (gA G 44)), (1, .int (nI t))]) hx hb d_MO_catcher_1 rfl hl (by decide) rfl (fun ls hl => ?_)
  exact m_MO_catcher_loop l G S t nc c en la P hT hPc hen7 hen hc hno hyes hx hb hr hlk hml hC (nc + 1) 0 (Nat.zero_le _) (by omega) _ _ _ hP hS (lv_sub hl [1, 2, 0] rfl)

set_option maxHeartbeats 4000000 in
set_option maxRecDepth 100000 in
theorem m_MO_lastOfA (l : Launch) (G : WG) (S : SS) (t nc : Nat) (la : Bool) (P : Nat → Nat) (hT : TryAt S t nc la P) (hla : la = false) (he : ¬ S 44 11 = 0) : Cv l y_MO_lastOf b_MO_lastOf 4 4 G [.ref (gA G 44), .int (nI t)] S (fun S1 => S1 = S) := by
  obtain ⟨ht, hnc4, hnc, hla4, h0, hs, hP9⟩ := id hT
  refine mk l (by decide +kernel) (Nat.le_of_ble_eq_true rfl) ?_
  intro pp_ ee_ ss_ mm_ be_ me_ co_ ls hx hb hr hlk hml hC hP hS hl
  have hl : lv_has ls 4 [(0, .ref (gA G 44)), (1, .int (nI t))] := hl
  refine lv_aload_n hx hb d_MO_lastOf_0 rfl (lv_at hl 0 rfl) ?_
  refine r_get hx hb hC hP i_MO (44) (by decide) rfl rfl 1 (by decide) l_MO_13 rfl d_MO_lastOf_1 ?_
  refine lv_iload_n hx hb d_MO_lastOf_4 rfl (lv_at hl 1 rfl) ?_
  refine r_ild hx hb hC hP (46) (by decide) rfl t rfl (by omega) (by decide) d_MO_lastOf_5 ?_
  refine lv_iconst (v := 4) hx hb d_MO_lastOf_6 (by decide) ?_
  refine lv_icmp_ge (tgt := 27) hx hb d_MO_lastOf_7 (by decide) (fun c_7 => absurd (hla4.mp c_7) (by rw [hla]; decide)) (fun c_7 => ?_)
  refine lv_aload_n hx hb d_MO_lastOf_10 rfl (lv_at hl 0 rfl) ?_
  refine r_get hx hb hC hP i_MO (44) (by decide) rfl rfl 11 (by decide) l_MO_92 rfl d_MO_lastOf_11 ?_
  refine lv_if_ne (tgt := 26) hx hb d_MO_lastOf_14 (by decide) (fun c_14 => ?_) (fun c_14 => absurd c_14 he)
  exact e_v hx hb hr hlk hC hP hS d_MO_lastOf_26 rfl

set_option maxHeartbeats 4000000 in
set_option maxRecDepth 100000 in
theorem m_MO_lastOfB (l : Launch) (G : WG) (S : SS) (t nc : Nat) (la : Bool) (P : Nat → Nat) (hT : TryAt S t nc la P) (hla : la = false) (he : S 44 11 = 0) : Cv l y_MO_lastOf b_MO_lastOf 4 4 G [.ref (gA G 44), .int (nI t)] S (fun S1 => S1 = su S 44 9 (nI (tryEnd nc la P))) := by
  obtain ⟨ht, hnc4, hnc, hla4, h0, hs, hP9⟩ := id hT
  refine mk l (by decide +kernel) (Nat.le_of_ble_eq_true rfl) ?_
  intro pp_ ee_ ss_ mm_ be_ me_ co_ ls hx hb hr hlk hml hC hP hS hl
  have hl : lv_has ls 4 [(0, .ref (gA G 44)), (1, .int (nI t))] := hl
  refine lv_aload_n hx hb d_MO_lastOf_0 rfl (lv_at hl 0 rfl) ?_
  refine r_get hx hb hC hP i_MO (44) (by decide) rfl rfl 1 (by decide) l_MO_13 rfl d_MO_lastOf_1 ?_
  refine lv_iload_n hx hb d_MO_lastOf_4 rfl (lv_at hl 1 rfl) ?_
  refine r_ild hx hb hC hP (46) (by decide) rfl t rfl (by omega) (by decide) d_MO_lastOf_5 ?_
  refine lv_iconst (v := 4) hx hb d_MO_lastOf_6 (by decide) ?_
  refine lv_icmp_ge (tgt := 27) hx hb d_MO_lastOf_7 (by decide) (fun c_7 => absurd (hla4.mp c_7) (by rw [hla]; decide)) (fun c_7 => ?_)
  refine lv_aload_n hx hb d_MO_lastOf_10 rfl (lv_at hl 0 rfl) ?_
  refine r_get hx hb hC hP i_MO (44) (by decide) rfl rfl 11 (by decide) l_MO_92 rfl d_MO_lastOf_11 ?_
  rw [show S 44 11 = 0 from he]
  refine lv_if_ne (tgt := 26) hx hb d_MO_lastOf_14 (by decide) (fun h => absurd h (by decide)) (fun _ => ?_)
  refine lv_aload_n hx hb d_MO_lastOf_17 rfl (lv_at hl 0 rfl) ?_
  refine lv_aload_n hx hb d_MO_lastOf_18 rfl (lv_at hl 0 rfl) ?_
  refine lv_iload_n hx hb d_MO_lastOf_19 rfl (lv_at hl 1 rfl) ?_
  refine r_i hC hS (r_runV (np := 1) (As := [.int (nI t)]) (rest := [.ref (gA G 44)]) hx hb hml hC hP hS (by decide) rfl rfl (m_MO_behindTry l G S t nc la P hT) l_MO_146 im_MO_behindTry se_MO_behindTry in_MO c_MO_behindTry_in (by decide +kernel) ⟨by simp only [rmF]; omega, by simp only [rmF]; omega⟩ rfl hl.1 (Nat.le_of_ble_eq_true rfl) d_MO_lastOf_20 ⟨Nat.le_refl _, Nat.le_refl _⟩) (fun r_20 S_20 H locs hw hP hS => ?_)
  obtain ⟨rfl, hSe⟩ := hw
  rw [hSe] at hP
  refine r_put hx hb hC hP hS i_MO t_MO t_MO_ok n_MO (44) (by decide) rfl rfl 9 (by decide) l_MO_86 rfl rfl rfl (Nat.le_of_ble_eq_true rfl) d_MO_lastOf_23 (fun H locs hP hS => ?_)
  exact e_v hx hb hr hlk hC hP hS d_MO_lastOf_26 rfl

def moLast (S : SS) (D t : Nat) (p : Nat) : SS := su (su (moEnter S D 17 (nI p) (S 44 12)) 51 D (S 44 11 + 8 * nI t)) 44 11 0
set_option maxHeartbeats 4000000 in
set_option maxRecDepth 100000 in
theorem m_MO_lastOfC (l : Launch) (G : WG) (S : SS) (t nc : Nat) (la : Bool) (P : Nat → Nat) (hT : TryAt S t nc la P) (D : Nat) (hD8 : D < 80) (hD : S 44 8 = nI D) (hla : la = true) : Cv l y_MO_lastOf b_MO_lastOf 4 4 G [.ref (gA G 44), .int (nI t)] S (fun S1 => S1 = moLast S D t (P nc)) := by
  obtain ⟨ht, hnc4, hnc, hla4, h0, hs, hP9⟩ := id hT
  refine mk l (by decide +kernel) (Nat.le_of_ble_eq_true rfl) ?_
  intro pp_ ee_ ss_ mm_ be_ me_ co_ ls hx hb hr hlk hml hC hP hS hl
  have hl : lv_has ls 4 [(0, .ref (gA G 44)), (1, .int (nI t))] := hl
  refine lv_aload_n hx hb d_MO_lastOf_0 rfl (lv_at hl 0 rfl) ?_
  refine r_get hx hb hC hP i_MO (44) (by decide) rfl rfl 1 (by decide) l_MO_13 rfl d_MO_lastOf_1 ?_
  refine lv_iload_n hx hb d_MO_lastOf_4 rfl (lv_at hl 1 rfl) ?_
  refine r_ild hx hb hC hP (46) (by decide) rfl t rfl (by omega) (by decide) d_MO_lastOf_5 ?_
  refine lv_iconst (v := 4) hx hb d_MO_lastOf_6 (by decide) ?_
  refine lv_icmp_ge (tgt := 27) hx hb d_MO_lastOf_7 (by decide) (fun c_7 => ?_) (fun c_7 => absurd (hla4.mpr hla) c_7)
  refine lv_aload_n hx hb d_MO_lastOf_27 rfl (lv_at hl 0 rfl) ?_
  refine r_get hx hb hC hP i_MO (44) (by decide) rfl rfl 11 (by decide) l_MO_92 rfl d_MO_lastOf_28 ?_
  refine lv_istore_n (lv' := [(2, .int (S 44 11)), (0, .ref (gA G 44)), (1, .int (nI t))]) hx hb d_MO_lastOf_31 rfl hl (by decide) rfl (fun ls hl => ?_)
  refine lv_aload_n hx hb d_MO_lastOf_32 rfl (lv_at hl 1 rfl) ?_
  refine r_get hx hb hC hP i_MO (44) (by decide) rfl rfl 12 (by decide) l_MO_95 rfl d_MO_lastOf_33 ?_
  refine lv_istore_n (lv' := [(3, .int (S 44 12)), (2, .int (S 44 11)), (0, .ref (gA G 44)), (1, .int (nI t))]) hx hb d_MO_lastOf_36 rfl hl (by decide) rfl (fun ls hl => ?_)
  refine lv_aload_n hx hb d_MO_lastOf_37 rfl (lv_at hl 2 rfl) ?_
  refine lv_bipush (v := 17) hx hb d_MO_lastOf_38 (by decide) ?_
  refine lv_aload_n hx hb d_MO_lastOf_40 rfl (lv_at hl 2 rfl) ?_
  refine lv_iload_n hx hb d_MO_lastOf_41 rfl (lv_at hl 3 rfl) ?_
  refine lv_aload_n hx hb d_MO_lastOf_42 rfl (lv_at hl 2 rfl) ?_
  refine r_get hx hb hC hP i_MO (44) (by decide) rfl rfl 1 (by decide) l_MO_13 rfl d_MO_lastOf_43 ?_
  refine lv_iload_n hx hb d_MO_lastOf_46 rfl (lv_at hl 3 rfl) ?_
  refine r_ild hx hb hC hP (46) (by decide) rfl t rfl (by omega) (by decide) d_MO_lastOf_47 ?_
  refine lv_iconst (v := 3) hx hb d_MO_lastOf_48 (by decide) ?_
  refine lv_iand hx hb d_MO_lastOf_49 ?_
  rw [show (S 46 t) &&& 3 = nI nc from hnc]
  refine r_i hC hS (r_runV (np := 2) (As := [.int (nI t), .int (nI nc)]) (rest := [.int 17, .ref (gA G 44)]) hx hb hml hC hP hS (by decide) rfl rfl (m_MO_part l G S t nc P (by omega) (by omega) h0 (fun j2 hj2 => hs j2 (by omega)) (fun j2 hj2 => hP9 j2 (by omega))) l_MO_82 im_MO_part se_MO_part in_MO c_MO_part_in (by decide +kernel) ⟨by simp only [rmF]; omega, by simp only [rmF]; omega⟩ rfl hl.1 (Nat.le_of_ble_eq_true rfl) d_MO_lastOf_50 ⟨Nat.le_refl _, Nat.le_refl _⟩) (fun r_50 S_50 H locs hw hP hS => ?_)
  obtain ⟨rfl, hSe⟩ := hw
  rw [hSe] at hP
  refine lv_iload_n hx hb d_MO_lastOf_53 rfl (lv_at hl 0 rfl) ?_
  refine r_v hC hS (r_runV (np := 3) (As := [.int 17, .int (nI (P nc)), .int (S 44 12)]) (rest := []) hx hb hml hC hP hS (by decide) rfl rfl (m_MO_enter l G S D (by omega) hD 17 (nI (P nc)) (S 44 12)) l_MO_107 im_MO_enter se_MO_enter in_MO c_MO_enter_in (by decide +kernel) ⟨by simp only [rmF]; omega, by simp only [rmF]; omega⟩ rfl hl.1 (Nat.le_of_ble_eq_true rfl) d_MO_lastOf_54 ⟨Nat.le_refl _, Nat.le_refl _⟩) (fun S_54 H locs hw hP hS => ?_)
  rw [hw] at hP
  refine lv_aload_n hx hb d_MO_lastOf_57 rfl (lv_at hl 2 rfl) ?_
  refine r_get hx hb hC hP i_MO (44) (by decide) rfl rfl 7 (by decide) l_MO_32 rfl d_MO_lastOf_58 ?_
  refine lv_aload_n hx hb d_MO_lastOf_61 rfl (lv_at hl 2 rfl) ?_
  refine r_get hx hb hC hP i_MO (44) (by decide) rfl rfl 8 (by decide) l_MO_58 rfl d_MO_lastOf_62 ?_
  rw [show (moEnter S D 17 (nI (P nc)) (S 44 12)) 44 8 = nI (D + 1) from (moEnter_8 _ _ _ _ _)]
  refine lv_iconst (v := 1) hx hb d_MO_lastOf_65 (by decide) ?_
  refine lv_isub hx hb d_MO_lastOf_66 ?_
  rw [show (nI (D + 1)) - 1 = nI D from nI_pred D]
  refine lv_iload_n hx hb d_MO_lastOf_67 rfl (lv_at hl 1 rfl) ?_
  refine lv_bipush (v := 8) hx hb d_MO_lastOf_68 (by decide) ?_
  refine lv_iload_n hx hb d_MO_lastOf_70 rfl (lv_at hl 3 rfl) ?_
  refine lv_imul hx hb d_MO_lastOf_71 ?_
  refine lv_iadd hx hb d_MO_lastOf_72 ?_
  refine r_ist hx hb hC hP hS (51) (by decide) (fun _ => rfl) D rfl (by omega) (by decide) d_MO_lastOf_73 (fun H locs hP hS => ?_)
  refine lv_aload_n hx hb d_MO_lastOf_74 rfl (lv_at hl 2 rfl) ?_
  refine lv_iconst (v := 0) hx hb d_MO_lastOf_75 (by decide) ?_
  refine r_put hx hb hC hP hS i_MO t_MO t_MO_ok n_MO (44) (by decide) rfl rfl 11 (by decide) l_MO_92 rfl rfl rfl (Nat.le_of_ble_eq_true rfl) d_MO_lastOf_76 (fun H locs hP hS => ?_)
  exact e_v hx hb hr hlk hC hP hS d_MO_lastOf_79 rfl

set_option maxHeartbeats 4000000 in
set_option maxRecDepth 100000 in
theorem m_MO_closeLastA (l : Launch) (G : WG) (S : SS) (t : Nat) (h x : Int32) (he : ¬ S 44 11 = 0) : Cv l y_MO_closeLast b_MO_closeLast 4 4 G [.ref (gA G 44), .int (nI t), .int h, .int x] S (fun S1 => S1 = S) := by
  refine mk l (by decide +kernel) (Nat.le_of_ble_eq_true rfl) ?_
  intro pp_ ee_ ss_ mm_ be_ me_ co_ ls hx hb hr hlk hml hC hP hS hl
  have hl : lv_has ls 4 [(0, .ref (gA G 44)), (1, .int (nI t)), (2, .int h), (3, .int x)] := hl
  refine lv_aload_n hx hb d_MO_closeLast_0 rfl (lv_at hl 0 rfl) ?_
  refine r_get hx hb hC hP i_MO (44) (by decide) rfl rfl 11 (by decide) l_MO_92 rfl d_MO_closeLast_1 ?_
  refine lv_if_eq (tgt := 8) hx hb d_MO_closeLast_4 (by decide) (fun c_4 => absurd c_4 he) (fun c_4 => ?_)
  exact e_v hx hb hr hlk hC hP hS d_MO_closeLast_7 rfl

set_option maxHeartbeats 4000000 in
set_option maxRecDepth 100000 in
theorem m_MO_closeLastB (l : Launch) (G : WG) (S : SS) (t : Nat) (h x : Int32) (he : S 44 11 = 0) (hh : ¬ h = 0) : Cv l y_MO_closeLast b_MO_closeLast 4 4 G [.ref (gA G 44), .int (nI t), .int h, .int x] S (fun S1 => S1 = moEnds S h x) := by
  refine mk l (by decide +kernel) (Nat.le_of_ble_eq_true rfl) ?_
  intro pp_ ee_ ss_ mm_ be_ me_ co_ ls hx hb hr hlk hml hC hP hS hl
  have hl : lv_has ls 4 [(0, .ref (gA G 44)), (1, .int (nI t)), (2, .int h), (3, .int x)] := hl
  refine lv_aload_n hx hb d_MO_closeLast_0 rfl (lv_at hl 0 rfl) ?_
  refine r_get hx hb hC hP i_MO (44) (by decide) rfl rfl 11 (by decide) l_MO_92 rfl d_MO_closeLast_1 ?_
  rw [show S 44 11 = 0 from he]
  refine lv_if_eq (tgt := 8) hx hb d_MO_closeLast_4 (by decide) (fun _ => ?_) (fun h => absurd h (by decide))
  refine lv_aload_n hx hb d_MO_closeLast_8 rfl (lv_at hl 0 rfl) ?_
  refine lv_iload_n hx hb d_MO_closeLast_9 rfl (lv_at hl 2 rfl) ?_
  refine lv_iload_n hx hb d_MO_closeLast_10 rfl (lv_at hl 3 rfl) ?_
  refine r_v hC hS (r_runV (np := 2) (As := [.int h, .int x]) (rest := []) hx hb hml hC hP hS (by decide) rfl rfl (m_MO_ends l G S h x) l_MO_101 im_MO_ends se_MO_ends in_MO c_MO_ends_in (by decide +kernel) ⟨by simp only [rmF]; omega, by simp only [rmF]; omega⟩ rfl hl.1 (Nat.le_of_ble_eq_true rfl) d_MO_closeLast_11 ⟨Nat.le_refl _, Nat.le_refl _⟩) (fun S_11 H locs hw hP hS => ?_)
  rw [hw] at hP
  refine lv_iload_n hx hb d_MO_closeLast_14 rfl (lv_at hl 2 rfl) ?_
  refine lv_if_ne (tgt := 27) hx hb d_MO_closeLast_15 (by decide) (fun c_15 => ?_) (fun c_15 => absurd c_15 hh)
  exact e_v hx hb hr hlk hC hP hS d_MO_closeLast_27 rfl

set_option maxHeartbeats 4000000 in
set_option maxRecDepth 100000 in
theorem m_MO_closeLastC (l : Launch) (G : WG) (S : SS) (t nc : Nat) (la : Bool) (P : Nat → Nat) (hT : TryAt S t nc la P) (x : Int32) (he : S 44 11 = 0) : Cv l y_MO_closeLast b_MO_closeLast 4 4 G [.ref (gA G 44), .int (nI t), .int 0, .int x] S (fun S1 => S1 = su (moEnds S 0 x) 44 9 (nI (tryEnd nc la P))) := by
  refine mk l (by decide +kernel) (Nat.le_of_ble_eq_true rfl) ?_
  intro pp_ ee_ ss_ mm_ be_ me_ co_ ls hx hb hr hlk hml hC hP hS hl
  have hl : lv_has ls 4 [(0, .ref (gA G 44)), (1, .int (nI t)), (2, .int 0), (3, .int x)] := hl
  refine lv_aload_n hx hb d_MO_closeLast_0 rfl (lv_at hl 0 rfl) ?_
  refine r_get hx hb hC hP i_MO (44) (by decide) rfl rfl 11 (by decide) l_MO_92 rfl d_MO_closeLast_1 ?_
  rw [show S 44 11 = 0 from he]
  refine lv_if_eq (tgt := 8) hx hb d_MO_closeLast_4 (by decide) (fun _ => ?_) (fun h => absurd h (by decide))
  refine lv_aload_n hx hb d_MO_closeLast_8 rfl (lv_at hl 0 rfl) ?_
  refine lv_iload_n hx hb d_MO_closeLast_9 rfl (lv_at hl 2 rfl) ?_
  refine lv_iload_n hx hb d_MO_closeLast_10 rfl (lv_at hl 3 rfl) ?_
  refine r_v hC hS (r_runV (np := 2) (As := [.int 0, .int x]) (rest := []) hx hb hml hC hP hS (by decide) rfl rfl (m_MO_ends l G S 0 x) l_MO_101 im_MO_ends se_MO_ends in_MO c_MO_ends_in (by decide +kernel) ⟨by simp only [rmF]; omega, by simp only [rmF]; omega⟩ rfl hl.1 (Nat.le_of_ble_eq_true rfl) d_MO_closeLast_11 ⟨Nat.le_refl _, Nat.le_refl _⟩) (fun S_11 H locs hw hP hS => ?_)
  rw [hw] at hP
  refine lv_iload_n hx hb d_MO_closeLast_14 rfl (lv_at hl 2 rfl) ?_
  refine lv_if_ne (tgt := 27) hx hb d_MO_closeLast_15 (by decide) (fun h => absurd h (by decide)) (fun _ => ?_)
  refine lv_aload_n hx hb d_MO_closeLast_18 rfl (lv_at hl 0 rfl) ?_
  refine lv_aload_n hx hb d_MO_closeLast_19 rfl (lv_at hl 0 rfl) ?_
  refine lv_iload_n hx hb d_MO_closeLast_20 rfl (lv_at hl 1 rfl) ?_
  refine r_i hC hS (r_runV (np := 1) (As := [.int (nI t)]) (rest := [.ref (gA G 44)]) hx hb hml hC hP hS (by decide) rfl rfl (m_MO_behindTry l G (moEnds S 0 x) t nc la P (hT.mv (by funext b; exact moEnds_k _ _ _ (by omega)) (by funext b; exact moEnds_k _ _ _ (by omega)))) l_MO_146 im_MO_behindTry se_MO_behindTry in_MO c_MO_behindTry_in (by decide +kernel) ⟨by simp only [rmF]; omega, by simp only [rmF]; omega⟩ rfl hl.1 (Nat.le_of_ble_eq_true rfl) d_MO_closeLast_21 ⟨Nat.le_refl _, Nat.le_refl _⟩) (fun r_21 S_21 H locs hw hP hS => ?_)
  obtain ⟨rfl, hSe⟩ := hw
  rw [hSe] at hP
  refine r_put hx hb hC hP hS i_MO t_MO t_MO_ok n_MO (44) (by decide) rfl rfl 9 (by decide) l_MO_86 rfl rfl rfl (Nat.le_of_ble_eq_true rfl) d_MO_closeLast_24 (fun H locs hP hS => ?_)
  exact e_v hx hb hr hlk hC hP hS d_MO_closeLast_27 rfl

def crH (S : SS) (q : Nat) : SS := su (su (su (su S 44 13 (nI q)) 53 0 (S 53 0 - S 52 (3 * q))) 53 1 (S 53 1 - S 52 (3 * q + 1))) 53 2 (S 53 2 - S 52 (3 * q + 2))
def moOwes (S : SS) (q : Nat) : Bool := decide (0 < S 52 (3 * q)) || decide (0 < S 52 (3 * q + 1)) || decide (0 < S 52 (3 * q + 2))
theorem crH_k (S : SS) (q : Nat) {a b : Nat} (h : ¬ ((a = 44 ∧ b = 13) ∨ (a = 53 ∧ b < 3))) : crH S q a b = S a b := by
  unfold crH
  rw [su_k _ _ (by omega), su_k _ _ (by omega), su_k _ _ (by omega), su_k _ _ (by omega)]


set_option maxHeartbeats 4000000 in
set_option maxRecDepth 100000 in
theorem m_MO_closeRunV3 (l : Launch) (G : WG) (S : SS) (q : Nat) (hq6 : q < 6) (hq : S 44 13 = nI (q + 1)) (bk mi : Int32) (he : S 44 11 = 3) (how : moOwes S q = false) (n : Nat) (hn6 : n < 600) (hn : S 44 18 = nI n) : Cv l y_MO_closeRun b_MO_closeRun 6 2 G [.ref (gA G 44), .int bk, .int mi] S (fun S1 => S1 = su (su (su (crH S q) 44 11 0) 44 10 (S 44 12)) 44 9 bk) := by
  refine mk l (by decide +kernel) (Nat.le_of_ble_eq_true rfl) ?_
  intro pp_ ee_ ss_ mm_ be_ me_ co_ ls hx hb hr hlk hml hC hP hS hl
  have hl : lv_has ls 6 [(0, .ref (gA G 44)), (1, .int bk), (2, .int mi)] := hl
  refine lv_aload_n hx hb d_MO_closeRun_0 rfl (lv_at hl 0 rfl) ?_
  refine r_get hx hb hC hP i_MO (44) (by decide) rfl rfl 11 (by decide) l_MO_92 rfl d_MO_closeRun_1 ?_
  rw [show S 44 11 = 3 from he]
  refine lv_iconst (v := 3) hx hb d_MO_closeRun_4 (by decide) ?_
  refine lv_icmp_ne (tgt := 15) hx hb d_MO_closeRun_5 (by decide) (fun h => absurd h (by decide)) (fun _ => ?_)
  refine lv_aload_n hx hb d_MO_closeRun_8 rfl (lv_at hl 0 rfl) ?_
  refine r_get hx hb hC hP i_MO (44) (by decide) rfl rfl 12 (by decide) l_MO_95 rfl d_MO_closeRun_9 ?_
  refine lv_goto (tgt := 19) hx hb d_MO_closeRun_12 (by decide) ?_
  refine lv_istore_n (lv' := [(3, .int (S 44 12)), (0, .ref (gA G 44)), (1, .int bk), (2, .int mi)]) hx hb d_MO_closeRun_19 rfl hl (by decide) rfl (fun ls hl => ?_)
  refine lv_iconst (v := 0) hx hb d_MO_closeRun_20 (by decide) ?_
  refine lv_istore (lv' := [(4, .int 0), (3, .int (S 44 12)), (0, .ref (gA G 44)), (1, .int bk), (2, .int mi)]) hx hb d_MO_closeRun_21 hl (by decide) rfl (fun ls hl => ?_)
  refine lv_aload_n hx hb d_MO_closeRun_23 rfl (lv_at hl 2 rfl) ?_
  refine lv_dup hx hb d_MO_closeRun_24 rfl ?_
  refine r_get hx hb hC hP i_MO (44) (by decide) rfl rfl 13 (by decide) l_MO_111 rfl d_MO_closeRun_25 ?_
  rw [show S 44 13 = nI (q + 1) from hq]
  refine lv_iconst (v := 1) hx hb d_MO_closeRun_28 (by decide) ?_
  refine lv_isub hx hb d_MO_closeRun_29 ?_
  rw [show (nI (q + 1)) - 1 = nI q from nI_pred q]
  refine r_put hx hb hC hP hS i_MO t_MO t_MO_ok n_MO (44) (by decide) rfl rfl 13 (by decide) l_MO_111 rfl rfl rfl (Nat.le_of_ble_eq_true rfl) d_MO_closeRun_30 (fun H locs hP hS => ?_)
  refine lv_iconst (v := 0) hx hb d_MO_closeRun_33 (by decide) ?_
  refine lv_istore (lv' := [(5, .int 0), (4, .int 0), (3, .int (S 44 12)), (0, .ref (gA G 44)), (1, .int bk), (2, .int mi)]) hx hb d_MO_closeRun_34 hl (by decide) rfl (fun ls hl => ?_)
  refine lv_iload hx hb d_MO_closeRun_36 (lv_at hl 0 rfl) ?_
  refine lv_iconst (v := 3) hx hb d_MO_closeRun_38 (by decide) ?_
  refine lv_icmp_ge (tgt := 92) hx hb d_MO_closeRun_39 (by decide) (fun h => absurd h (by decide)) (fun _ => ?_)
  refine lv_aload_n hx hb d_MO_closeRun_42 rfl (lv_at hl 3 rfl) ?_
  refine r_get hx hb hC hP i_MO (44) (by decide) rfl rfl 15 (by decide) l_MO_38 rfl d_MO_closeRun_43 ?_
  refine lv_iload hx hb d_MO_closeRun_46 (lv_at hl 0 rfl) ?_
  refine lv_dup2_11 hx hb d_MO_closeRun_48 rfl rfl ?_
  refine r_ild hx hb hC hP (53) (by decide) rfl 0 rfl (by decide) (by decide) d_MO_closeRun_49 ?_
  rw [show (su S 44 13 (nI q)) 53 0 = S 53 0 from by rw [su_cell _ _ _ (by decide)]]
  refine lv_aload_n hx hb d_MO_closeRun_50 rfl (lv_at hl 3 rfl) ?_
  refine r_get hx hb hC hP i_MO (44) (by decide) rfl rfl 14 (by decide) l_MO_35 rfl d_MO_closeRun_51 ?_
  refine lv_iconst (v := 3) hx hb d_MO_closeRun_54 (by decide) ?_
  refine lv_aload_n hx hb d_MO_closeRun_55 rfl (lv_at hl 3 rfl) ?_
  refine r_get hx hb hC hP i_MO (44) (by decide) rfl rfl 13 (by decide) l_MO_111 rfl d_MO_closeRun_56 ?_
  rw [show (su S 44 13 (nI q)) 44 13 = nI q from by rw [su_same]]
  refine lv_imul hx hb d_MO_closeRun_59 ?_
  refine lv_iload hx hb d_MO_closeRun_60 (lv_at hl 0 rfl) ?_
  refine lv_iadd hx hb d_MO_closeRun_62 ?_
  rw [show (3 * (nI q)) + 0 = nI (3 * q) from (nI_m3 q 0)]
  refine r_ild hx hb hC hP (52) (by decide) rfl (3 * q) rfl (by omega) (by decide) d_MO_closeRun_63 ?_
  rw [show (su S 44 13 (nI q)) 52 (3 * q) = S 52 (3 * q) from by rw [su_cell _ _ _ (by decide)]]
  refine lv_isub hx hb d_MO_closeRun_64 ?_
  refine r_ist hx hb hC hP hS (53) (by decide) (fun _ => rfl) 0 rfl (by decide) (by decide) d_MO_closeRun_65 (fun H locs hP hS => ?_)
  refine lv_aload_n hx hb d_MO_closeRun_66 rfl (lv_at hl 3 rfl) ?_
  refine r_get hx hb hC hP i_MO (44) (by decide) rfl rfl 14 (by decide) l_MO_35 rfl d_MO_closeRun_67 ?_
  refine lv_iconst (v := 3) hx hb d_MO_closeRun_70 (by decide) ?_
  refine lv_aload_n hx hb d_MO_closeRun_71 rfl (lv_at hl 3 rfl) ?_
  refine r_get hx hb hC hP i_MO (44) (by decide) rfl rfl 13 (by decide) l_MO_111 rfl d_MO_closeRun_72 ?_
  rw [show (su (su S 44 13 (nI q)) 53 0 ((S 53 0) - (S 52 (3 * q)))) 44 13 = nI q from by rw [su_cell _ _ _ (by decide), su_same]]
  refine lv_imul hx hb d_MO_closeRun_75 ?_
  refine lv_iload hx hb d_MO_closeRun_76 (lv_at hl 0 rfl) ?_
  refine lv_iadd hx hb d_MO_closeRun_78 ?_
  rw [show (3 * (nI q)) + 0 = nI (3 * q) from (nI_m3 q 0)]
  refine r_ild hx hb hC hP (52) (by decide) rfl (3 * q) rfl (by omega) (by decide) d_MO_closeRun_79 ?_
  rw [show (su (su S 44 13 (nI q)) 53 0 ((S 53 0) - (S 52 (3 * q)))) 52 (3 * q) = S 52 (3 * q) from by rw [su_cell _ _ _ (by decide), su_cell _ _ _ (by decide)]]
  refine lv_if_le (tgt := 86) hx hb d_MO_closeRun_80 (by decide) (fun c_80 => ?_) (fun c_80 => ?_)
  · refine lv_iinc (v := 1) (lv' := [(5, .int 1), (4, .int 0), (3, .int (S 44 12)), (0, .ref (gA G 44)), (1, .int bk), (2, .int mi)]) hx hb d_MO_closeRun_86 hl (k := 0) rfl (by decide) (by decide) rfl (fun ls hl => ?_)
    refine lv_goto (tgt := 36) hx hb d_MO_closeRun_89 (by decide) ?_
    refine lv_iload hx hb d_MO_closeRun_36 (lv_at hl 0 rfl) ?_
    refine lv_iconst (v := 3) hx hb d_MO_closeRun_38 (by decide) ?_
    refine lv_icmp_ge (tgt := 92) hx hb d_MO_closeRun_39 (by decide) (fun h => absurd h (by decide)) (fun _ => ?_)
    refine lv_aload_n hx hb d_MO_closeRun_42 rfl (lv_at hl 3 rfl) ?_
    refine r_get hx hb hC hP i_MO (44) (by decide) rfl rfl 15 (by decide) l_MO_38 rfl d_MO_closeRun_43 ?_
    refine lv_iload hx hb d_MO_closeRun_46 (lv_at hl 0 rfl) ?_
    refine lv_dup2_11 hx hb d_MO_closeRun_48 rfl rfl ?_
    refine r_ild hx hb hC hP (53) (by decide) rfl 1 rfl (by decide) (by decide) d_MO_closeRun_49 ?_
    rw [show (su (su S 44 13 (nI q)) 53 0 ((S 53 0) - (S 52 (3 * q)))) 53 1 = S 53 1 from by rw [su_int _ _ _ (by decide), su_cell _ _ _ (by decide)]]
    refine lv_aload_n hx hb d_MO_closeRun_50 rfl (lv_at hl 3 rfl) ?_
    refine r_get hx hb hC hP i_MO (44) (by decide) rfl rfl 14 (by decide) l_MO_35 rfl d_MO_closeRun_51 ?_
    refine lv_iconst (v := 3) hx hb d_MO_closeRun_54 (by decide) ?_
    refine lv_aload_n hx hb d_MO_closeRun_55 rfl (lv_at hl 3 rfl) ?_
    refine r_get hx hb hC hP i_MO (44) (by decide) rfl rfl 13 (by decide) l_MO_111 rfl d_MO_closeRun_56 ?_
    rw [show (su (su S 44 13 (nI q)) 53 0 ((S 53 0) - (S 52 (3 * q)))) 44 13 = nI q from by rw [su_cell _ _ _ (by decide), su_same]]
    refine lv_imul hx hb d_MO_closeRun_59 ?_
    refine lv_iload hx hb d_MO_closeRun_60 (lv_at hl 0 rfl) ?_
    refine lv_iadd hx hb d_MO_closeRun_62 ?_
    rw [show (3 * (nI q)) + 1 = nI (3 * q + 1) from (nI_m3 q 1)]
    refine r_ild hx hb hC hP (52) (by decide) rfl (3 * q + 1) rfl (by omega) (by decide) d_MO_closeRun_63 ?_
    rw [show (su (su S 44 13 (nI q)) 53 0 ((S 53 0) - (S 52 (3 * q)))) 52 (3 * q + 1) = S 52 (3 * q + 1) from by rw [su_cell _ _ _ (by decide), su_cell _ _ _ (by decide)]]
    refine lv_isub hx hb d_MO_closeRun_64 ?_
    refine r_ist hx hb hC hP hS (53) (by decide) (fun _ => rfl) 1 rfl (by decide) (by decide) d_MO_closeRun_65 (fun H locs hP hS => ?_)
    refine lv_aload_n hx hb d_MO_closeRun_66 rfl (lv_at hl 3 rfl) ?_
    refine r_get hx hb hC hP i_MO (44) (by decide) rfl rfl 14 (by decide) l_MO_35 rfl d_MO_closeRun_67 ?_
    refine lv_iconst (v := 3) hx hb d_MO_closeRun_70 (by decide) ?_
    refine lv_aload_n hx hb d_MO_closeRun_71 rfl (lv_at hl 3 rfl) ?_
    refine r_get hx hb hC hP i_MO (44) (by decide) rfl rfl 13 (by decide) l_MO_111 rfl d_MO_closeRun_72 ?_
    rw [show (su (su (su S 44 13 (nI q)) 53 0 ((S 53 0) - (S 52 (3 * q)))) 53 1 ((S 53 1) - (S 52 (3 * q + 1)))) 44 13 = nI q from by rw [su_cell _ _ _ (by decide), su_cell _ _ _ (by decide), su_same]]
    refine lv_imul hx hb d_MO_closeRun_75 ?_
    refine lv_iload hx hb d_MO_closeRun_76 (lv_at hl 0 rfl) ?_
    refine lv_iadd hx hb d_MO_closeRun_78 ?_
    rw [show (3 * (nI q)) + 1 = nI (3 * q + 1) from (nI_m3 q 1)]
    refine r_ild hx hb hC hP (52) (by decide) rfl (3 * q + 1) rfl (by omega) (by decide) d_MO_closeRun_79 ?_
    rw [show (su (su (su S 44 13 (nI q)) 53 0 ((S 53 0) - (S 52 (3 * q)))) 53 1 ((S 53 1) - (S 52 (3 * q + 1)))) 52 (3 * q + 1) = S 52 (3 * q + 1) from by rw [su_cell _ _ _ (by decide), su_cell _ _ _ (by decide), su_cell _ _ _ (by decide)]]
    refine lv_if_le (tgt := 86) hx hb d_MO_closeRun_80 (by decide) (fun c_80x => ?_) (fun c_80x => ?_)
    · refine lv_iinc (v := 2) (lv' := [(5, .int 2), (4, .int 0), (3, .int (S 44 12)), (0, .ref (gA G 44)), (1, .int bk), (2, .int mi)]) hx hb d_MO_closeRun_86 hl (k := 0) rfl (by decide) (by decide) rfl (fun ls hl => ?_)
      refine lv_goto (tgt := 36) hx hb d_MO_closeRun_89 (by decide) ?_
      refine lv_iload hx hb d_MO_closeRun_36 (lv_at hl 0 rfl) ?_
      refine lv_iconst (v := 3) hx hb d_MO_closeRun_38 (by decide) ?_
      refine lv_icmp_ge (tgt := 92) hx hb d_MO_closeRun_39 (by decide) (fun h => absurd h (by decide)) (fun _ => ?_)
      refine lv_aload_n hx hb d_MO_closeRun_42 rfl (lv_at hl 3 rfl) ?_
      refine r_get hx hb hC hP i_MO (44) (by decide) rfl rfl 15 (by decide) l_MO_38 rfl d_MO_closeRun_43 ?_
      refine lv_iload hx hb d_MO_closeRun_46 (lv_at hl 0 rfl) ?_
      refine lv_dup2_11 hx hb d_MO_closeRun_48 rfl rfl ?_
      refine r_ild hx hb hC hP (53) (by decide) rfl 2 rfl (by decide) (by decide) d_MO_closeRun_49 ?_
      rw [show (su (su (su S 44 13 (nI q)) 53 0 ((S 53 0) - (S 52 (3 * q)))) 53 1 ((S 53 1) - (S 52 (3 * q + 1)))) 53 2 = S 53 2 from by rw [su_int _ _ _ (by decide), su_int _ _ _ (by decide), su_cell _ _ _ (by decide)]]
      refine lv_aload_n hx hb d_MO_closeRun_50 rfl (lv_at hl 3 rfl) ?_
      refine r_get hx hb hC hP i_MO (44) (by decide) rfl rfl 14 (by decide) l_MO_35 rfl d_MO_closeRun_51 ?_
      refine lv_iconst (v := 3) hx hb d_MO_closeRun_54 (by decide) ?_
      refine lv_aload_n hx hb d_MO_closeRun_55 rfl (lv_at hl 3 rfl) ?_
      refine r_get hx hb hC hP i_MO (44) (by decide) rfl rfl 13 (by decide) l_MO_111 rfl d_MO_closeRun_56 ?_
      rw [show (su (su (su S 44 13 (nI q)) 53 0 ((S 53 0) - (S 52 (3 * q)))) 53 1 ((S 53 1) - (S 52 (3 * q + 1)))) 44 13 = nI q from by rw [su_cell _ _ _ (by decide), su_cell _ _ _ (by decide), su_same]]
      refine lv_imul hx hb d_MO_closeRun_59 ?_
      refine lv_iload hx hb d_MO_closeRun_60 (lv_at hl 0 rfl) ?_
      refine lv_iadd hx hb d_MO_closeRun_62 ?_
      rw [show (3 * (nI q)) + 2 = nI (3 * q + 2) from (nI_m3 q 2)]
      refine r_ild hx hb hC hP (52) (by decide) rfl (3 * q + 2) rfl (by omega) (by decide) d_MO_closeRun_63 ?_
      rw [show (su (su (su S 44 13 (nI q)) 53 0 ((S 53 0) - (S 52 (3 * q)))) 53 1 ((S 53 1) - (S 52 (3 * q + 1)))) 52 (3 * q + 2) = S 52 (3 * q + 2) from by rw [su_cell _ _ _ (by decide), su_cell _ _ _ (by decide), su_cell _ _ _ (by decide)]]
      refine lv_isub hx hb d_MO_closeRun_64 ?_
      refine r_ist hx hb hC hP hS (53) (by decide) (fun _ => rfl) 2 rfl (by decide) (by decide) d_MO_closeRun_65 (fun H locs hP hS => ?_)
      refine lv_aload_n hx hb d_MO_closeRun_66 rfl (lv_at hl 3 rfl) ?_
      refine r_get hx hb hC hP i_MO (44) (by decide) rfl rfl 14 (by decide) l_MO_35 rfl d_MO_closeRun_67 ?_
      refine lv_iconst (v := 3) hx hb d_MO_closeRun_70 (by decide) ?_
      refine lv_aload_n hx hb d_MO_closeRun_71 rfl (lv_at hl 3 rfl) ?_
      refine r_get hx hb hC hP i_MO (44) (by decide) rfl rfl 13 (by decide) l_MO_111 rfl d_MO_closeRun_72 ?_
      rw [show (su (su (su (su S 44 13 (nI q)) 53 0 ((S 53 0) - (S 52 (3 * q)))) 53 1 ((S 53 1) - (S 52 (3 * q + 1)))) 53 2 ((S 53 2) - (S 52 (3 * q + 2)))) 44 13 = nI q from by rw [su_cell _ _ _ (by decide), su_cell _ _ _ (by decide), su_cell _ _ _ (by decide), su_same]]
      refine lv_imul hx hb d_MO_closeRun_75 ?_
      refine lv_iload hx hb d_MO_closeRun_76 (lv_at hl 0 rfl) ?_
      refine lv_iadd hx hb d_MO_closeRun_78 ?_
      rw [show (3 * (nI q)) + 2 = nI (3 * q + 2) from (nI_m3 q 2)]
      refine r_ild hx hb hC hP (52) (by decide) rfl (3 * q + 2) rfl (by omega) (by decide) d_MO_closeRun_79 ?_
      rw [show (su (su (su (su S 44 13 (nI q)) 53 0 ((S 53 0) - (S 52 (3 * q)))) 53 1 ((S 53 1) - (S 52 (3 * q + 1)))) 53 2 ((S 53 2) - (S 52 (3 * q + 2)))) 52 (3 * q + 2) = S 52 (3 * q + 2) from by rw [su_cell _ _ _ (by decide), su_cell _ _ _ (by decide), su_cell _ _ _ (by decide), su_cell _ _ _ (by decide)]]
      refine lv_if_le (tgt := 86) hx hb d_MO_closeRun_80 (by decide) (fun c_80xx => ?_) (fun c_80xx => ?_)
      · refine lv_iinc (v := 3) (lv' := [(5, .int 3), (4, .int 0), (3, .int (S 44 12)), (0, .ref (gA G 44)), (1, .int bk), (2, .int mi)]) hx hb d_MO_closeRun_86 hl (k := 0) rfl (by decide) (by decide) rfl (fun ls hl => ?_)
        refine lv_goto (tgt := 36) hx hb d_MO_closeRun_89 (by decide) ?_
        refine lv_iload hx hb d_MO_closeRun_36 (lv_at hl 0 rfl) ?_
        refine lv_iconst (v := 3) hx hb d_MO_closeRun_38 (by decide) ?_
        refine lv_icmp_ge (tgt := 92) hx hb d_MO_closeRun_39 (by decide) (fun _ => ?_) (fun h => absurd h (by decide))
        refine lv_iload hx hb d_MO_closeRun_92 (lv_at hl 1 rfl) ?_
        refine lv_if_eq (tgt := 118) hx hb d_MO_closeRun_94 (by decide) (fun _ => ?_) (fun h => absurd h (by decide))
        refine lv_aload_n hx hb d_MO_closeRun_118 rfl (lv_at hl 3 rfl) ?_
        refine r_get hx hb hC hP i_MO (44) (by decide) rfl rfl 11 (by decide) l_MO_92 rfl d_MO_closeRun_119 ?_
        rw [show (su (su (su (su S 44 13 (nI q)) 53 0 ((S 53 0) - (S 52 (3 * q)))) 53 1 ((S 53 1) - (S 52 (3 * q + 1)))) 53 2 ((S 53 2) - (S 52 (3 * q + 2)))) 44 11 = S 44 11 from by rw [su_cell _ _ _ (by decide), su_cell _ _ _ (by decide), su_cell _ _ _ (by decide), su_int _ _ _ (by decide)]]
        rw [show S 44 11 = 3 from he]
        refine lv_iconst (v := 4) hx hb d_MO_closeRun_122 (by decide) ?_
        refine lv_icmp_ne (tgt := 132) hx hb d_MO_closeRun_123 (by decide) (fun _ => ?_) (fun h => absurd h (by decide))
        refine lv_aload_n hx hb d_MO_closeRun_132 rfl (lv_at hl 3 rfl) ?_
        refine lv_iconst (v := 0) hx hb d_MO_closeRun_133 (by decide) ?_
        refine r_put hx hb hC hP hS i_MO t_MO t_MO_ok n_MO (44) (by decide) rfl rfl 11 (by decide) l_MO_92 rfl rfl rfl (Nat.le_of_ble_eq_true rfl) d_MO_closeRun_134 (fun H locs hP hS => ?_)
        refine lv_aload_n hx hb d_MO_closeRun_137 rfl (lv_at hl 3 rfl) ?_
        refine lv_iload_n hx hb d_MO_closeRun_138 rfl (lv_at hl 2 rfl) ?_
        refine r_put hx hb hC hP hS i_MO t_MO t_MO_ok n_MO (44) (by decide) rfl rfl 10 (by decide) l_MO_121 rfl rfl rfl (Nat.le_of_ble_eq_true rfl) d_MO_closeRun_139 (fun H locs hP hS => ?_)
        refine lv_aload_n hx hb d_MO_closeRun_142 rfl (lv_at hl 3 rfl) ?_
        refine lv_iload_n hx hb d_MO_closeRun_143 rfl (lv_at hl 4 rfl) ?_
        refine r_put hx hb hC hP hS i_MO t_MO t_MO_ok n_MO (44) (by decide) rfl rfl 9 (by decide) l_MO_86 rfl rfl rfl (Nat.le_of_ble_eq_true rfl) d_MO_closeRun_144 (fun H locs hP hS => ?_)
        exact e_v hx hb hr hlk hC hP hS d_MO_closeRun_147 rfl
      · refine lv_iconst (v := 1) hx hb d_MO_closeRun_83 (by decide) ?_
        refine lv_istore (lv' := [(4, .int 1), (5, .int 2), (3, .int (S 44 12)), (0, .ref (gA G 44)), (1, .int bk), (2, .int mi)]) hx hb d_MO_closeRun_84 hl (by decide) rfl (fun ls hl => ?_)
        refine lv_iinc (v := 3) (lv' := [(5, .int 3), (4, .int 1), (3, .int (S 44 12)), (0, .ref (gA G 44)), (1, .int bk), (2, .int mi)]) hx hb d_MO_closeRun_86 hl (k := 1) rfl (by decide) (by decide) rfl (fun ls hl => ?_)
        refine lv_goto (tgt := 36) hx hb d_MO_closeRun_89 (by decide) ?_
        refine lv_iload hx hb d_MO_closeRun_36 (lv_at hl 0 rfl) ?_
        refine lv_iconst (v := 3) hx hb d_MO_closeRun_38 (by decide) ?_
        refine lv_icmp_ge (tgt := 92) hx hb d_MO_closeRun_39 (by decide) (fun _ => ?_) (fun h => absurd h (by decide))
        refine lv_iload hx hb d_MO_closeRun_92 (lv_at hl 1 rfl) ?_
        refine lv_if_eq (tgt := 118) hx hb d_MO_closeRun_94 (by decide) (fun h => absurd h (by decide)) (fun _ => ?_)
        refine lv_aload_n hx hb d_MO_closeRun_97 rfl (lv_at hl 3 rfl) ?_
        refine lv_iconst (v := 4) hx hb d_MO_closeRun_98 (by decide) ?_
        refine lv_aload_n hx hb d_MO_closeRun_99 rfl (lv_at hl 3 rfl) ?_
        refine r_get hx hb hC hP i_MO (44) (by decide) rfl rfl 11 (by decide) l_MO_92 rfl d_MO_closeRun_100 ?_
        rw [show (su (su (su (su S 44 13 (nI q)) 53 0 ((S 53 0) - (S 52 (3 * q)))) 53 1 ((S 53 1) - (S 52 (3 * q + 1)))) 53 2 ((S 53 2) - (S 52 (3 * q + 2)))) 44 11 = S 44 11 from by rw [su_cell _ _ _ (by decide), su_cell _ _ _ (by decide), su_cell _ _ _ (by decide), su_int _ _ _ (by decide)]]
        rw [show S 44 11 = 3 from he]
        refine lv_iconst (v := 4) hx hb d_MO_closeRun_103 (by decide) ?_
        refine lv_icmp_ne (tgt := 114) hx hb d_MO_closeRun_104 (by decide) (fun _ => ?_) (fun h => absurd h (by decide))
        refine lv_iconst (v := 0) hx hb d_MO_closeRun_114 (by decide) ?_
        refine r_v hC hS (r_runV (np := 2) (As := [.int 4, .int 0]) (rest := []) hx hb hml hC hP hS (by decide) rfl rfl (m_MO_raise l G (su (su (su (su S 44 13 (nI q)) 53 0 ((S 53 0) - (S 52 (3 * q)))) 53 1 ((S 53 1) - (S 52 (3 * q + 1)))) 53 2 ((S 53 2) - (S 52 (3 * q + 2)))) n (by omega) (by rw [su_cell _ _ _ (by decide), su_cell _ _ _ (by decide), su_cell _ _ _ (by decide), su_int _ _ _ (by decide)]; exact hn) 4 0) l_MO_124 im_MO_raise se_MO_raise in_MO c_MO_raise_in (by decide +kernel) ⟨by simp only [rmF]; omega, by simp only [rmF]; omega⟩ rfl hl.1 (Nat.le_of_ble_eq_true rfl) d_MO_closeRun_115 ⟨Nat.le_refl _, Nat.le_refl _⟩) (fun S_115 H locs hw hP hS => ?_)
        rw [hw] at hP
        refine lv_aload_n hx hb d_MO_closeRun_118 rfl (lv_at hl 3 rfl) ?_
        refine r_get hx hb hC hP i_MO (44) (by decide) rfl rfl 11 (by decide) l_MO_92 rfl d_MO_closeRun_119 ?_
        rw [show (moRaise (su (su (su (su S 44 13 (nI q)) 53 0 ((S 53 0) - (S 52 (3 * q)))) 53 1 ((S 53 1) - (S 52 (3 * q + 1)))) 53 2 ((S 53 2) - (S 52 (3 * q + 2)))) n 4 0) 44 11 = 4 from (moRaise_11 _ _ _ _)]
        refine lv_iconst (v := 4) hx hb d_MO_closeRun_122 (by decide) ?_
        refine lv_icmp_ne (tgt := 132) hx hb d_MO_closeRun_123 (by decide) (fun h => absurd h (by decide)) (fun _ => ?_)
        refine lv_aload_n hx hb d_MO_closeRun_126 rfl (lv_at hl 3 rfl) ?_
        refine lv_iload_n hx hb d_MO_closeRun_127 rfl (lv_at hl 5 rfl) ?_
        refine r_put hx hb hC hP hS i_MO t_MO t_MO_ok n_MO (44) (by decide) rfl rfl 10 (by decide) l_MO_121 rfl rfl rfl (Nat.le_of_ble_eq_true rfl) d_MO_closeRun_128 (fun H locs hP hS => ?_)
        exact e_v hx hb hr hlk hC hP hS d_MO_closeRun_131 (by rw [moOwes, decide_eq_false (Int32.not_lt.mpr c_80), decide_eq_false (Int32.not_lt.mpr c_80x), decide_eq_true (Int32.not_le.mp c_80xx)] at how; exact absurd how (by decide))
    · refine lv_iconst (v := 1) hx hb d_MO_closeRun_83 (by decide) ?_
      refine lv_istore (lv' := [(4, .int 1), (5, .int 1), (3, .int (S 44 12)), (0, .ref (gA G 44)), (1, .int bk), (2, .int mi)]) hx hb d_MO_closeRun_84 hl (by decide) rfl (fun ls hl => ?_)
      refine lv_iinc (v := 2) (lv' := [(5, .int 2), (4, .int 1), (3, .int (S 44 12)), (0, .ref (gA G 44)), (1, .int bk), (2, .int mi)]) hx hb d_MO_closeRun_86 hl (k := 1) rfl (by decide) (by decide) rfl (fun ls hl => ?_)
      refine lv_goto (tgt := 36) hx hb d_MO_closeRun_89 (by decide) ?_
      refine lv_iload hx hb d_MO_closeRun_36 (lv_at hl 0 rfl) ?_
      refine lv_iconst (v := 3) hx hb d_MO_closeRun_38 (by decide) ?_
      refine lv_icmp_ge (tgt := 92) hx hb d_MO_closeRun_39 (by decide) (fun h => absurd h (by decide)) (fun _ => ?_)
      refine lv_aload_n hx hb d_MO_closeRun_42 rfl (lv_at hl 3 rfl) ?_
      refine r_get hx hb hC hP i_MO (44) (by decide) rfl rfl 15 (by decide) l_MO_38 rfl d_MO_closeRun_43 ?_
      refine lv_iload hx hb d_MO_closeRun_46 (lv_at hl 0 rfl) ?_
      refine lv_dup2_11 hx hb d_MO_closeRun_48 rfl rfl ?_
      refine r_ild hx hb hC hP (53) (by decide) rfl 2 rfl (by decide) (by decide) d_MO_closeRun_49 ?_
      rw [show (su (su (su S 44 13 (nI q)) 53 0 ((S 53 0) - (S 52 (3 * q)))) 53 1 ((S 53 1) - (S 52 (3 * q + 1)))) 53 2 = S 53 2 from by rw [su_int _ _ _ (by decide), su_int _ _ _ (by decide), su_cell _ _ _ (by decide)]]
      refine lv_aload_n hx hb d_MO_closeRun_50 rfl (lv_at hl 3 rfl) ?_
      refine r_get hx hb hC hP i_MO (44) (by decide) rfl rfl 14 (by decide) l_MO_35 rfl d_MO_closeRun_51 ?_
      refine lv_iconst (v := 3) hx hb d_MO_closeRun_54 (by decide) ?_
      refine lv_aload_n hx hb d_MO_closeRun_55 rfl (lv_at hl 3 rfl) ?_
      refine r_get hx hb hC hP i_MO (44) (by decide) rfl rfl 13 (by decide) l_MO_111 rfl d_MO_closeRun_56 ?_
      rw [show (su (su (su S 44 13 (nI q)) 53 0 ((S 53 0) - (S 52 (3 * q)))) 53 1 ((S 53 1) - (S 52 (3 * q + 1)))) 44 13 = nI q from by rw [su_cell _ _ _ (by decide), su_cell _ _ _ (by decide), su_same]]
      refine lv_imul hx hb d_MO_closeRun_59 ?_
      refine lv_iload hx hb d_MO_closeRun_60 (lv_at hl 0 rfl) ?_
      refine lv_iadd hx hb d_MO_closeRun_62 ?_
      rw [show (3 * (nI q)) + 2 = nI (3 * q + 2) from (nI_m3 q 2)]
      refine r_ild hx hb hC hP (52) (by decide) rfl (3 * q + 2) rfl (by omega) (by decide) d_MO_closeRun_63 ?_
      rw [show (su (su (su S 44 13 (nI q)) 53 0 ((S 53 0) - (S 52 (3 * q)))) 53 1 ((S 53 1) - (S 52 (3 * q + 1)))) 52 (3 * q + 2) = S 52 (3 * q + 2) from by rw [su_cell _ _ _ (by decide), su_cell _ _ _ (by decide), su_cell _ _ _ (by decide)]]
      refine lv_isub hx hb d_MO_closeRun_64 ?_
      refine r_ist hx hb hC hP hS (53) (by decide) (fun _ => rfl) 2 rfl (by decide) (by decide) d_MO_closeRun_65 (fun H locs hP hS => ?_)
      refine lv_aload_n hx hb d_MO_closeRun_66 rfl (lv_at hl 3 rfl) ?_
      refine r_get hx hb hC hP i_MO (44) (by decide) rfl rfl 14 (by decide) l_MO_35 rfl d_MO_closeRun_67 ?_
      refine lv_iconst (v := 3) hx hb d_MO_closeRun_70 (by decide) ?_
      refine lv_aload_n hx hb d_MO_closeRun_71 rfl (lv_at hl 3 rfl) ?_
      refine r_get hx hb hC hP i_MO (44) (by decide) rfl rfl 13 (by decide) l_MO_111 rfl d_MO_closeRun_72 ?_
      rw [show (su (su (su (su S 44 13 (nI q)) 53 0 ((S 53 0) - (S 52 (3 * q)))) 53 1 ((S 53 1) - (S 52 (3 * q + 1)))) 53 2 ((S 53 2) - (S 52 (3 * q + 2)))) 44 13 = nI q from by rw [su_cell _ _ _ (by decide), su_cell _ _ _ (by decide), su_cell _ _ _ (by decide), su_same]]
      refine lv_imul hx hb d_MO_closeRun_75 ?_
      refine lv_iload hx hb d_MO_closeRun_76 (lv_at hl 0 rfl) ?_
      refine lv_iadd hx hb d_MO_closeRun_78 ?_
      rw [show (3 * (nI q)) + 2 = nI (3 * q + 2) from (nI_m3 q 2)]
      refine r_ild hx hb hC hP (52) (by decide) rfl (3 * q + 2) rfl (by omega) (by decide) d_MO_closeRun_79 ?_
      rw [show (su (su (su (su S 44 13 (nI q)) 53 0 ((S 53 0) - (S 52 (3 * q)))) 53 1 ((S 53 1) - (S 52 (3 * q + 1)))) 53 2 ((S 53 2) - (S 52 (3 * q + 2)))) 52 (3 * q + 2) = S 52 (3 * q + 2) from by rw [su_cell _ _ _ (by decide), su_cell _ _ _ (by decide), su_cell _ _ _ (by decide), su_cell _ _ _ (by decide)]]
      refine lv_if_le (tgt := 86) hx hb d_MO_closeRun_80 (by decide) (fun c_80xx => ?_) (fun c_80xx => ?_)
      · refine lv_iinc (v := 3) (lv' := [(5, .int 3), (4, .int 1), (3, .int (S 44 12)), (0, .ref (gA G 44)), (1, .int bk), (2, .int mi)]) hx hb d_MO_closeRun_86 hl (k := 0) rfl (by decide) (by decide) rfl (fun ls hl => ?_)
        refine lv_goto (tgt := 36) hx hb d_MO_closeRun_89 (by decide) ?_
        refine lv_iload hx hb d_MO_closeRun_36 (lv_at hl 0 rfl) ?_
        refine lv_iconst (v := 3) hx hb d_MO_closeRun_38 (by decide) ?_
        refine lv_icmp_ge (tgt := 92) hx hb d_MO_closeRun_39 (by decide) (fun _ => ?_) (fun h => absurd h (by decide))
        refine lv_iload hx hb d_MO_closeRun_92 (lv_at hl 1 rfl) ?_
        refine lv_if_eq (tgt := 118) hx hb d_MO_closeRun_94 (by decide) (fun h => absurd h (by decide)) (fun _ => ?_)
        refine lv_aload_n hx hb d_MO_closeRun_97 rfl (lv_at hl 3 rfl) ?_
        refine lv_iconst (v := 4) hx hb d_MO_closeRun_98 (by decide) ?_
        refine lv_aload_n hx hb d_MO_closeRun_99 rfl (lv_at hl 3 rfl) ?_
        refine r_get hx hb hC hP i_MO (44) (by decide) rfl rfl 11 (by decide) l_MO_92 rfl d_MO_closeRun_100 ?_
        rw [show (su (su (su (su S 44 13 (nI q)) 53 0 ((S 53 0) - (S 52 (3 * q)))) 53 1 ((S 53 1) - (S 52 (3 * q + 1)))) 53 2 ((S 53 2) - (S 52 (3 * q + 2)))) 44 11 = S 44 11 from by rw [su_cell _ _ _ (by decide), su_cell _ _ _ (by decide), su_cell _ _ _ (by decide), su_int _ _ _ (by decide)]]
        rw [show S 44 11 = 3 from he]
        refine lv_iconst (v := 4) hx hb d_MO_closeRun_103 (by decide) ?_
        refine lv_icmp_ne (tgt := 114) hx hb d_MO_closeRun_104 (by decide) (fun _ => ?_) (fun h => absurd h (by decide))
        refine lv_iconst (v := 0) hx hb d_MO_closeRun_114 (by decide) ?_
        refine r_v hC hS (r_runV (np := 2) (As := [.int 4, .int 0]) (rest := []) hx hb hml hC hP hS (by decide) rfl rfl (m_MO_raise l G (su (su (su (su S 44 13 (nI q)) 53 0 ((S 53 0) - (S 52 (3 * q)))) 53 1 ((S 53 1) - (S 52 (3 * q + 1)))) 53 2 ((S 53 2) - (S 52 (3 * q + 2)))) n (by omega) (by rw [su_cell _ _ _ (by decide), su_cell _ _ _ (by decide), su_cell _ _ _ (by decide), su_int _ _ _ (by decide)]; exact hn) 4 0) l_MO_124 im_MO_raise se_MO_raise in_MO c_MO_raise_in (by decide +kernel) ⟨by simp only [rmF]; omega, by simp only [rmF]; omega⟩ rfl hl.1 (Nat.le_of_ble_eq_true rfl) d_MO_closeRun_115 ⟨Nat.le_refl _, Nat.le_refl _⟩) (fun S_115 H locs hw hP hS => ?_)
        rw [hw] at hP
        refine lv_aload_n hx hb d_MO_closeRun_118 rfl (lv_at hl 3 rfl) ?_
        refine r_get hx hb hC hP i_MO (44) (by decide) rfl rfl 11 (by decide) l_MO_92 rfl d_MO_closeRun_119 ?_
        rw [show (moRaise (su (su (su (su S 44 13 (nI q)) 53 0 ((S 53 0) - (S 52 (3 * q)))) 53 1 ((S 53 1) - (S 52 (3 * q + 1)))) 53 2 ((S 53 2) - (S 52 (3 * q + 2)))) n 4 0) 44 11 = 4 from (moRaise_11 _ _ _ _)]
        refine lv_iconst (v := 4) hx hb d_MO_closeRun_122 (by decide) ?_
        refine lv_icmp_ne (tgt := 132) hx hb d_MO_closeRun_123 (by decide) (fun h => absurd h (by decide)) (fun _ => ?_)
        refine lv_aload_n hx hb d_MO_closeRun_126 rfl (lv_at hl 3 rfl) ?_
        refine lv_iload_n hx hb d_MO_closeRun_127 rfl (lv_at hl 5 rfl) ?_
        refine r_put hx hb hC hP hS i_MO t_MO t_MO_ok n_MO (44) (by decide) rfl rfl 10 (by decide) l_MO_121 rfl rfl rfl (Nat.le_of_ble_eq_true rfl) d_MO_closeRun_128 (fun H locs hP hS => ?_)
        exact e_v hx hb hr hlk hC hP hS d_MO_closeRun_131 (by rw [moOwes, decide_eq_false (Int32.not_lt.mpr c_80), decide_eq_true (Int32.not_le.mp c_80x), decide_eq_false (Int32.not_lt.mpr c_80xx)] at how; exact absurd how (by decide))
      · refine lv_iconst (v := 1) hx hb d_MO_closeRun_83 (by decide) ?_
        refine lv_istore (lv' := [(4, .int 1), (5, .int 2), (3, .int (S 44 12)), (0, .ref (gA G 44)), (1, .int bk), (2, .int mi)]) hx hb d_MO_closeRun_84 hl (by decide) rfl (fun ls hl => ?_)
        refine lv_iinc (v := 3) (lv' := [(5, .int 3), (4, .int 1), (3, .int (S 44 12)), (0, .ref (gA G 44)), (1, .int bk), (2, .int mi)]) hx hb d_MO_closeRun_86 hl (k := 1) rfl (by decide) (by decide) rfl (fun ls hl => ?_)
        refine lv_goto (tgt := 36) hx hb d_MO_closeRun_89 (by decide) ?_
        refine lv_iload hx hb d_MO_closeRun_36 (lv_at hl 0 rfl) ?_
        refine lv_iconst (v := 3) hx hb d_MO_closeRun_38 (by decide) ?_
        refine lv_icmp_ge (tgt := 92) hx hb d_MO_closeRun_39 (by decide) (fun _ => ?_) (fun h => absurd h (by decide))
        refine lv_iload hx hb d_MO_closeRun_92 (lv_at hl 1 rfl) ?_
        refine lv_if_eq (tgt := 118) hx hb d_MO_closeRun_94 (by decide) (fun h => absurd h (by decide)) (fun _ => ?_)
        refine lv_aload_n hx hb d_MO_closeRun_97 rfl (lv_at hl 3 rfl) ?_
        refine lv_iconst (v := 4) hx hb d_MO_closeRun_98 (by decide) ?_
        refine lv_aload_n hx hb d_MO_closeRun_99 rfl (lv_at hl 3 rfl) ?_
        refine r_get hx hb hC hP i_MO (44) (by decide) rfl rfl 11 (by decide) l_MO_92 rfl d_MO_closeRun_100 ?_
        rw [show (su (su (su (su S 44 13 (nI q)) 53 0 ((S 53 0) - (S 52 (3 * q)))) 53 1 ((S 53 1) - (S 52 (3 * q + 1)))) 53 2 ((S 53 2) - (S 52 (3 * q + 2)))) 44 11 = S 44 11 from by rw [su_cell _ _ _ (by decide), su_cell _ _ _ (by decide), su_cell _ _ _ (by decide), su_int _ _ _ (by decide)]]
        rw [show S 44 11 = 3 from he]
        refine lv_iconst (v := 4) hx hb d_MO_closeRun_103 (by decide) ?_
        refine lv_icmp_ne (tgt := 114) hx hb d_MO_closeRun_104 (by decide) (fun _ => ?_) (fun h => absurd h (by decide))
        refine lv_iconst (v := 0) hx hb d_MO_closeRun_114 (by decide) ?_
        refine r_v hC hS (r_runV (np := 2) (As := [.int 4, .int 0]) (rest := []) hx hb hml hC hP hS (by decide) rfl rfl (m_MO_raise l G (su (su (su (su S 44 13 (nI q)) 53 0 ((S 53 0) - (S 52 (3 * q)))) 53 1 ((S 53 1) - (S 52 (3 * q + 1)))) 53 2 ((S 53 2) - (S 52 (3 * q + 2)))) n (by omega) (by rw [su_cell _ _ _ (by decide), su_cell _ _ _ (by decide), su_cell _ _ _ (by decide), su_int _ _ _ (by decide)]; exact hn) 4 0) l_MO_124 im_MO_raise se_MO_raise in_MO c_MO_raise_in (by decide +kernel) ⟨by simp only [rmF]; omega, by simp only [rmF]; omega⟩ rfl hl.1 (Nat.le_of_ble_eq_true rfl) d_MO_closeRun_115 ⟨Nat.le_refl _, Nat.le_refl _⟩) (fun S_115 H locs hw hP hS => ?_)
        rw [hw] at hP
        refine lv_aload_n hx hb d_MO_closeRun_118 rfl (lv_at hl 3 rfl) ?_
        refine r_get hx hb hC hP i_MO (44) (by decide) rfl rfl 11 (by decide) l_MO_92 rfl d_MO_closeRun_119 ?_
        rw [show (moRaise (su (su (su (su S 44 13 (nI q)) 53 0 ((S 53 0) - (S 52 (3 * q)))) 53 1 ((S 53 1) - (S 52 (3 * q + 1)))) 53 2 ((S 53 2) - (S 52 (3 * q + 2)))) n 4 0) 44 11 = 4 from (moRaise_11 _ _ _ _)]
        refine lv_iconst (v := 4) hx hb d_MO_closeRun_122 (by decide) ?_
        refine lv_icmp_ne (tgt := 132) hx hb d_MO_closeRun_123 (by decide) (fun h => absurd h (by decide)) (fun _ => ?_)
        refine lv_aload_n hx hb d_MO_closeRun_126 rfl (lv_at hl 3 rfl) ?_
        refine lv_iload_n hx hb d_MO_closeRun_127 rfl (lv_at hl 5 rfl) ?_
        refine r_put hx hb hC hP hS i_MO t_MO t_MO_ok n_MO (44) (by decide) rfl rfl 10 (by decide) l_MO_121 rfl rfl rfl (Nat.le_of_ble_eq_true rfl) d_MO_closeRun_128 (fun H locs hP hS => ?_)
        exact e_v hx hb hr hlk hC hP hS d_MO_closeRun_131 (by rw [moOwes, decide_eq_false (Int32.not_lt.mpr c_80), decide_eq_true (Int32.not_le.mp c_80x), decide_eq_true (Int32.not_le.mp c_80xx)] at how; exact absurd how (by decide))
  · refine lv_iconst (v := 1) hx hb d_MO_closeRun_83 (by decide) ?_
    refine lv_istore (lv' := [(4, .int 1), (5, .int 0), (3, .int (S 44 12)), (0, .ref (gA G 44)), (1, .int bk), (2, .int mi)]) hx hb d_MO_closeRun_84 hl (by decide) rfl (fun ls hl => ?_)
    refine lv_iinc (v := 1) (lv' := [(5, .int 1), (4, .int 1), (3, .int (S 44 12)), (0, .ref (gA G 44)), (1, .int bk), (2, .int mi)]) hx hb d_MO_closeRun_86 hl (k := 1) rfl (by decide) (by decide) rfl (fun ls hl => ?_)
    refine lv_goto (tgt := 36) hx hb d_MO_closeRun_89 (by decide) ?_
    refine lv_iload hx hb d_MO_closeRun_36 (lv_at hl 0 rfl) ?_
    refine lv_iconst (v := 3) hx hb d_MO_closeRun_38 (by decide) ?_
    refine lv_icmp_ge (tgt := 92) hx hb d_MO_closeRun_39 (by decide) (fun h => absurd h (by decide)) (fun _ => ?_)
    refine lv_aload_n hx hb d_MO_closeRun_42 rfl (lv_at hl 3 rfl) ?_
    refine r_get hx hb hC hP i_MO (44) (by decide) rfl rfl 15 (by decide) l_MO_38 rfl d_MO_closeRun_43 ?_
    refine lv_iload hx hb d_MO_closeRun_46 (lv_at hl 0 rfl) ?_
    refine lv_dup2_11 hx hb d_MO_closeRun_48 rfl rfl ?_
    refine r_ild hx hb hC hP (53) (by decide) rfl 1 rfl (by decide) (by decide) d_MO_closeRun_49 ?_
    rw [show (su (su S 44 13 (nI q)) 53 0 ((S 53 0) - (S 52 (3 * q)))) 53 1 = S 53 1 from by rw [su_int _ _ _ (by decide), su_cell _ _ _ (by decide)]]
    refine lv_aload_n hx hb d_MO_closeRun_50 rfl (lv_at hl 3 rfl) ?_
    refine r_get hx hb hC hP i_MO (44) (by decide) rfl rfl 14 (by decide) l_MO_35 rfl d_MO_closeRun_51 ?_
    refine lv_iconst (v := 3) hx hb d_MO_closeRun_54 (by decide) ?_
    refine lv_aload_n hx hb d_MO_closeRun_55 rfl (lv_at hl 3 rfl) ?_
    refine r_get hx hb hC hP i_MO (44) (by decide) rfl rfl 13 (by decide) l_MO_111 rfl d_MO_closeRun_56 ?_
    rw [show (su (su S 44 13 (nI q)) 53 0 ((S 53 0) - (S 52 (3 * q)))) 44 13 = nI q from by rw [su_cell _ _ _ (by decide), su_same]]
    refine lv_imul hx hb d_MO_closeRun_59 ?_
    refine lv_iload hx hb d_MO_closeRun_60 (lv_at hl 0 rfl) ?_
    refine lv_iadd hx hb d_MO_closeRun_62 ?_
    rw [show (3 * (nI q)) + 1 = nI (3 * q + 1) from (nI_m3 q 1)]
    refine r_ild hx hb hC hP (52) (by decide) rfl (3 * q + 1) rfl (by omega) (by decide) d_MO_closeRun_63 ?_
    rw [show (su (su S 44 13 (nI q)) 53 0 ((S 53 0) - (S 52 (3 * q)))) 52 (3 * q + 1) = S 52 (3 * q + 1) from by rw [su_cell _ _ _ (by decide), su_cell _ _ _ (by decide)]]
    refine lv_isub hx hb d_MO_closeRun_64 ?_
    refine r_ist hx hb hC hP hS (53) (by decide) (fun _ => rfl) 1 rfl (by decide) (by decide) d_MO_closeRun_65 (fun H locs hP hS => ?_)
    refine lv_aload_n hx hb d_MO_closeRun_66 rfl (lv_at hl 3 rfl) ?_
    refine r_get hx hb hC hP i_MO (44) (by decide) rfl rfl 14 (by decide) l_MO_35 rfl d_MO_closeRun_67 ?_
    refine lv_iconst (v := 3) hx hb d_MO_closeRun_70 (by decide) ?_
    refine lv_aload_n hx hb d_MO_closeRun_71 rfl (lv_at hl 3 rfl) ?_
    refine r_get hx hb hC hP i_MO (44) (by decide) rfl rfl 13 (by decide) l_MO_111 rfl d_MO_closeRun_72 ?_
    rw [show (su (su (su S 44 13 (nI q)) 53 0 ((S 53 0) - (S 52 (3 * q)))) 53 1 ((S 53 1) - (S 52 (3 * q + 1)))) 44 13 = nI q from by rw [su_cell _ _ _ (by decide), su_cell _ _ _ (by decide), su_same]]
    refine lv_imul hx hb d_MO_closeRun_75 ?_
    refine lv_iload hx hb d_MO_closeRun_76 (lv_at hl 0 rfl) ?_
    refine lv_iadd hx hb d_MO_closeRun_78 ?_
    rw [show (3 * (nI q)) + 1 = nI (3 * q + 1) from (nI_m3 q 1)]
    refine r_ild hx hb hC hP (52) (by decide) rfl (3 * q + 1) rfl (by omega) (by decide) d_MO_closeRun_79 ?_
    rw [show (su (su (su S 44 13 (nI q)) 53 0 ((S 53 0) - (S 52 (3 * q)))) 53 1 ((S 53 1) - (S 52 (3 * q + 1)))) 52 (3 * q + 1) = S 52 (3 * q + 1) from by rw [su_cell _ _ _ (by decide), su_cell _ _ _ (by decide), su_cell _ _ _ (by decide)]]
    refine lv_if_le (tgt := 86) hx hb d_MO_closeRun_80 (by decide) (fun c_80x => ?_) (fun c_80x => ?_)
    · refine lv_iinc (v := 2) (lv' := [(5, .int 2), (4, .int 1), (3, .int (S 44 12)), (0, .ref (gA G 44)), (1, .int bk), (2, .int mi)]) hx hb d_MO_closeRun_86 hl (k := 0) rfl (by decide) (by decide) rfl (fun ls hl => ?_)
      refine lv_goto (tgt := 36) hx hb d_MO_closeRun_89 (by decide) ?_
      refine lv_iload hx hb d_MO_closeRun_36 (lv_at hl 0 rfl) ?_
      refine lv_iconst (v := 3) hx hb d_MO_closeRun_38 (by decide) ?_
      refine lv_icmp_ge (tgt := 92) hx hb d_MO_closeRun_39 (by decide) (fun h => absurd h (by decide)) (fun _ => ?_)
      refine lv_aload_n hx hb d_MO_closeRun_42 rfl (lv_at hl 3 rfl) ?_
      refine r_get hx hb hC hP i_MO (44) (by decide) rfl rfl 15 (by decide) l_MO_38 rfl d_MO_closeRun_43 ?_
      refine lv_iload hx hb d_MO_closeRun_46 (lv_at hl 0 rfl) ?_
      refine lv_dup2_11 hx hb d_MO_closeRun_48 rfl rfl ?_
      refine r_ild hx hb hC hP (53) (by decide) rfl 2 rfl (by decide) (by decide) d_MO_closeRun_49 ?_
      rw [show (su (su (su S 44 13 (nI q)) 53 0 ((S 53 0) - (S 52 (3 * q)))) 53 1 ((S 53 1) - (S 52 (3 * q + 1)))) 53 2 = S 53 2 from by rw [su_int _ _ _ (by decide), su_int _ _ _ (by decide), su_cell _ _ _ (by decide)]]
      refine lv_aload_n hx hb d_MO_closeRun_50 rfl (lv_at hl 3 rfl) ?_
      refine r_get hx hb hC hP i_MO (44) (by decide) rfl rfl 14 (by decide) l_MO_35 rfl d_MO_closeRun_51 ?_
      refine lv_iconst (v := 3) hx hb d_MO_closeRun_54 (by decide) ?_
      refine lv_aload_n hx hb d_MO_closeRun_55 rfl (lv_at hl 3 rfl) ?_
      refine r_get hx hb hC hP i_MO (44) (by decide) rfl rfl 13 (by decide) l_MO_111 rfl d_MO_closeRun_56 ?_
      rw [show (su (su (su S 44 13 (nI q)) 53 0 ((S 53 0) - (S 52 (3 * q)))) 53 1 ((S 53 1) - (S 52 (3 * q + 1)))) 44 13 = nI q from by rw [su_cell _ _ _ (by decide), su_cell _ _ _ (by decide), su_same]]
      refine lv_imul hx hb d_MO_closeRun_59 ?_
      refine lv_iload hx hb d_MO_closeRun_60 (lv_at hl 0 rfl) ?_
      refine lv_iadd hx hb d_MO_closeRun_62 ?_
      rw [show (3 * (nI q)) + 2 = nI (3 * q + 2) from (nI_m3 q 2)]
      refine r_ild hx hb hC hP (52) (by decide) rfl (3 * q + 2) rfl (by omega) (by decide) d_MO_closeRun_63 ?_
      rw [show (su (su (su S 44 13 (nI q)) 53 0 ((S 53 0) - (S 52 (3 * q)))) 53 1 ((S 53 1) - (S 52 (3 * q + 1)))) 52 (3 * q + 2) = S 52 (3 * q + 2) from by rw [su_cell _ _ _ (by decide), su_cell _ _ _ (by decide), su_cell _ _ _ (by decide)]]
      refine lv_isub hx hb d_MO_closeRun_64 ?_
      refine r_ist hx hb hC hP hS (53) (by decide) (fun _ => rfl) 2 rfl (by decide) (by decide) d_MO_closeRun_65 (fun H locs hP hS => ?_)
      refine lv_aload_n hx hb d_MO_closeRun_66 rfl (lv_at hl 3 rfl) ?_
      refine r_get hx hb hC hP i_MO (44) (by decide) rfl rfl 14 (by decide) l_MO_35 rfl d_MO_closeRun_67 ?_
      refine lv_iconst (v := 3) hx hb d_MO_closeRun_70 (by decide) ?_
      refine lv_aload_n hx hb d_MO_closeRun_71 rfl (lv_at hl 3 rfl) ?_
      refine r_get hx hb hC hP i_MO (44) (by decide) rfl rfl 13 (by decide) l_MO_111 rfl d_MO_closeRun_72 ?_
      rw [show (su (su (su (su S 44 13 (nI q)) 53 0 ((S 53 0) - (S 52 (3 * q)))) 53 1 ((S 53 1) - (S 52 (3 * q + 1)))) 53 2 ((S 53 2) - (S 52 (3 * q + 2)))) 44 13 = nI q from by rw [su_cell _ _ _ (by decide), su_cell _ _ _ (by decide), su_cell _ _ _ (by decide), su_same]]
      refine lv_imul hx hb d_MO_closeRun_75 ?_
      refine lv_iload hx hb d_MO_closeRun_76 (lv_at hl 0 rfl) ?_
      refine lv_iadd hx hb d_MO_closeRun_78 ?_
      rw [show (3 * (nI q)) + 2 = nI (3 * q + 2) from (nI_m3 q 2)]
      refine r_ild hx hb hC hP (52) (by decide) rfl (3 * q + 2) rfl (by omega) (by decide) d_MO_closeRun_79 ?_
      rw [show (su (su (su (su S 44 13 (nI q)) 53 0 ((S 53 0) - (S 52 (3 * q)))) 53 1 ((S 53 1) - (S 52 (3 * q + 1)))) 53 2 ((S 53 2) - (S 52 (3 * q + 2)))) 52 (3 * q + 2) = S 52 (3 * q + 2) from by rw [su_cell _ _ _ (by decide), su_cell _ _ _ (by decide), su_cell _ _ _ (by decide), su_cell _ _ _ (by decide)]]
      refine lv_if_le (tgt := 86) hx hb d_MO_closeRun_80 (by decide) (fun c_80xx => ?_) (fun c_80xx => ?_)
      · refine lv_iinc (v := 3) (lv' := [(5, .int 3), (4, .int 1), (3, .int (S 44 12)), (0, .ref (gA G 44)), (1, .int bk), (2, .int mi)]) hx hb d_MO_closeRun_86 hl (k := 0) rfl (by decide) (by decide) rfl (fun ls hl => ?_)
        refine lv_goto (tgt := 36) hx hb d_MO_closeRun_89 (by decide) ?_
        refine lv_iload hx hb d_MO_closeRun_36 (lv_at hl 0 rfl) ?_
        refine lv_iconst (v := 3) hx hb d_MO_closeRun_38 (by decide) ?_
        refine lv_icmp_ge (tgt := 92) hx hb d_MO_closeRun_39 (by decide) (fun _ => ?_) (fun h => absurd h (by decide))
        refine lv_iload hx hb d_MO_closeRun_92 (lv_at hl 1 rfl) ?_
        refine lv_if_eq (tgt := 118) hx hb d_MO_closeRun_94 (by decide) (fun h => absurd h (by decide)) (fun _ => ?_)
        refine lv_aload_n hx hb d_MO_closeRun_97 rfl (lv_at hl 3 rfl) ?_
        refine lv_iconst (v := 4) hx hb d_MO_closeRun_98 (by decide) ?_
        refine lv_aload_n hx hb d_MO_closeRun_99 rfl (lv_at hl 3 rfl) ?_
        refine r_get hx hb hC hP i_MO (44) (by decide) rfl rfl 11 (by decide) l_MO_92 rfl d_MO_closeRun_100 ?_
        rw [show (su (su (su (su S 44 13 (nI q)) 53 0 ((S 53 0) - (S 52 (3 * q)))) 53 1 ((S 53 1) - (S 52 (3 * q + 1)))) 53 2 ((S 53 2) - (S 52 (3 * q + 2)))) 44 11 = S 44 11 from by rw [su_cell _ _ _ (by decide), su_cell _ _ _ (by decide), su_cell _ _ _ (by decide), su_int _ _ _ (by decide)]]
        rw [show S 44 11 = 3 from he]
        refine lv_iconst (v := 4) hx hb d_MO_closeRun_103 (by decide) ?_
        refine lv_icmp_ne (tgt := 114) hx hb d_MO_closeRun_104 (by decide) (fun _ => ?_) (fun h => absurd h (by decide))
        refine lv_iconst (v := 0) hx hb d_MO_closeRun_114 (by decide) ?_
        refine r_v hC hS (r_runV (np := 2) (As := [.int 4, .int 0]) (rest := []) hx hb hml hC hP hS (by decide) rfl rfl (m_MO_raise l G (su (su (su (su S 44 13 (nI q)) 53 0 ((S 53 0) - (S 52 (3 * q)))) 53 1 ((S 53 1) - (S 52 (3 * q + 1)))) 53 2 ((S 53 2) - (S 52 (3 * q + 2)))) n (by omega) (by rw [su_cell _ _ _ (by decide), su_cell _ _ _ (by decide), su_cell _ _ _ (by decide), su_int _ _ _ (by decide)]; exact hn) 4 0) l_MO_124 im_MO_raise se_MO_raise in_MO c_MO_raise_in (by decide +kernel) ⟨by simp only [rmF]; omega, by simp only [rmF]; omega⟩ rfl hl.1 (Nat.le_of_ble_eq_true rfl) d_MO_closeRun_115 ⟨Nat.le_refl _, Nat.le_refl _⟩) (fun S_115 H locs hw hP hS => ?_)
        rw [hw] at hP
        refine lv_aload_n hx hb d_MO_closeRun_118 rfl (lv_at hl 3 rfl) ?_
        refine r_get hx hb hC hP i_MO (44) (by decide) rfl rfl 11 (by decide) l_MO_92 rfl d_MO_closeRun_119 ?_
        rw [show (moRaise (su (su (su (su S 44 13 (nI q)) 53 0 ((S 53 0) - (S 52 (3 * q)))) 53 1 ((S 53 1) - (S 52 (3 * q + 1)))) 53 2 ((S 53 2) - (S 52 (3 * q + 2)))) n 4 0) 44 11 = 4 from (moRaise_11 _ _ _ _)]
        refine lv_iconst (v := 4) hx hb d_MO_closeRun_122 (by decide) ?_
        refine lv_icmp_ne (tgt := 132) hx hb d_MO_closeRun_123 (by decide) (fun h => absurd h (by decide)) (fun _ => ?_)
        refine lv_aload_n hx hb d_MO_closeRun_126 rfl (lv_at hl 3 rfl) ?_
        refine lv_iload_n hx hb d_MO_closeRun_127 rfl (lv_at hl 5 rfl) ?_
        refine r_put hx hb hC hP hS i_MO t_MO t_MO_ok n_MO (44) (by decide) rfl rfl 10 (by decide) l_MO_121 rfl rfl rfl (Nat.le_of_ble_eq_true rfl) d_MO_closeRun_128 (fun H locs hP hS => ?_)
        exact e_v hx hb hr hlk hC hP hS d_MO_closeRun_131 (by rw [moOwes, decide_eq_true (Int32.not_le.mp c_80), decide_eq_false (Int32.not_lt.mpr c_80x), decide_eq_false (Int32.not_lt.mpr c_80xx)] at how; exact absurd how (by decide))
      · refine lv_iconst (v := 1) hx hb d_MO_closeRun_83 (by decide) ?_
        refine lv_istore (lv' := [(4, .int 1), (5, .int 2), (3, .int (S 44 12)), (0, .ref (gA G 44)), (1, .int bk), (2, .int mi)]) hx hb d_MO_closeRun_84 hl (by decide) rfl (fun ls hl => ?_)
        refine lv_iinc (v := 3) (lv' := [(5, .int 3), (4, .int 1), (3, .int (S 44 12)), (0, .ref (gA G 44)), (1, .int bk), (2, .int mi)]) hx hb d_MO_closeRun_86 hl (k := 1) rfl (by decide) (by decide) rfl (fun ls hl => ?_)
        refine lv_goto (tgt := 36) hx hb d_MO_closeRun_89 (by decide) ?_
        refine lv_iload hx hb d_MO_closeRun_36 (lv_at hl 0 rfl) ?_
        refine lv_iconst (v := 3) hx hb d_MO_closeRun_38 (by decide) ?_
        refine lv_icmp_ge (tgt := 92) hx hb d_MO_closeRun_39 (by decide) (fun _ => ?_) (fun h => absurd h (by decide))
        refine lv_iload hx hb d_MO_closeRun_92 (lv_at hl 1 rfl) ?_
        refine lv_if_eq (tgt := 118) hx hb d_MO_closeRun_94 (by decide) (fun h => absurd h (by decide)) (fun _ => ?_)
        refine lv_aload_n hx hb d_MO_closeRun_97 rfl (lv_at hl 3 rfl) ?_
        refine lv_iconst (v := 4) hx hb d_MO_closeRun_98 (by decide) ?_
        refine lv_aload_n hx hb d_MO_closeRun_99 rfl (lv_at hl 3 rfl) ?_
        refine r_get hx hb hC hP i_MO (44) (by decide) rfl rfl 11 (by decide) l_MO_92 rfl d_MO_closeRun_100 ?_
        rw [show (su (su (su (su S 44 13 (nI q)) 53 0 ((S 53 0) - (S 52 (3 * q)))) 53 1 ((S 53 1) - (S 52 (3 * q + 1)))) 53 2 ((S 53 2) - (S 52 (3 * q + 2)))) 44 11 = S 44 11 from by rw [su_cell _ _ _ (by decide), su_cell _ _ _ (by decide), su_cell _ _ _ (by decide), su_int _ _ _ (by decide)]]
        rw [show S 44 11 = 3 from he]
        refine lv_iconst (v := 4) hx hb d_MO_closeRun_103 (by decide) ?_
        refine lv_icmp_ne (tgt := 114) hx hb d_MO_closeRun_104 (by decide) (fun _ => ?_) (fun h => absurd h (by decide))
        refine lv_iconst (v := 0) hx hb d_MO_closeRun_114 (by decide) ?_
        refine r_v hC hS (r_runV (np := 2) (As := [.int 4, .int 0]) (rest := []) hx hb hml hC hP hS (by decide) rfl rfl (m_MO_raise l G (su (su (su (su S 44 13 (nI q)) 53 0 ((S 53 0) - (S 52 (3 * q)))) 53 1 ((S 53 1) - (S 52 (3 * q + 1)))) 53 2 ((S 53 2) - (S 52 (3 * q + 2)))) n (by omega) (by rw [su_cell _ _ _ (by decide), su_cell _ _ _ (by decide), su_cell _ _ _ (by decide), su_int _ _ _ (by decide)]; exact hn) 4 0) l_MO_124 im_MO_raise se_MO_raise in_MO c_MO_raise_in (by decide +kernel) ⟨by simp only [rmF]; omega, by simp only [rmF]; omega⟩ rfl hl.1 (Nat.le_of_ble_eq_true rfl) d_MO_closeRun_115 ⟨Nat.le_refl _, Nat.le_refl _⟩) (fun S_115 H locs hw hP hS => ?_)
        rw [hw] at hP
        refine lv_aload_n hx hb d_MO_closeRun_118 rfl (lv_at hl 3 rfl) ?_
        refine r_get hx hb hC hP i_MO (44) (by decide) rfl rfl 11 (by decide) l_MO_92 rfl d_MO_closeRun_119 ?_
        rw [show (moRaise (su (su (su (su S 44 13 (nI q)) 53 0 ((S 53 0) - (S 52 (3 * q)))) 53 1 ((S 53 1) - (S 52 (3 * q + 1)))) 53 2 ((S 53 2) - (S 52 (3 * q + 2)))) n 4 0) 44 11 = 4 from (moRaise_11 _ _ _ _)]
        refine lv_iconst (v := 4) hx hb d_MO_closeRun_122 (by decide) ?_
        refine lv_icmp_ne (tgt := 132) hx hb d_MO_closeRun_123 (by decide) (fun h => absurd h (by decide)) (fun _ => ?_)
        refine lv_aload_n hx hb d_MO_closeRun_126 rfl (lv_at hl 3 rfl) ?_
        refine lv_iload_n hx hb d_MO_closeRun_127 rfl (lv_at hl 5 rfl) ?_
        refine r_put hx hb hC hP hS i_MO t_MO t_MO_ok n_MO (44) (by decide) rfl rfl 10 (by decide) l_MO_121 rfl rfl rfl (Nat.le_of_ble_eq_true rfl) d_MO_closeRun_128 (fun H locs hP hS => ?_)
        exact e_v hx hb hr hlk hC hP hS d_MO_closeRun_131 (by rw [moOwes, decide_eq_true (Int32.not_le.mp c_80), decide_eq_false (Int32.not_lt.mpr c_80x), decide_eq_true (Int32.not_le.mp c_80xx)] at how; exact absurd how (by decide))
    · refine lv_iconst (v := 1) hx hb d_MO_closeRun_83 (by decide) ?_
      refine lv_istore (lv' := [(4, .int 1), (5, .int 1), (3, .int (S 44 12)), (0, .ref (gA G 44)), (1, .int bk), (2, .int mi)]) hx hb d_MO_closeRun_84 hl (by decide) rfl (fun ls hl => ?_)
      refine lv_iinc (v := 2) (lv' := [(5, .int 2), (4, .int 1), (3, .int (S 44 12)), (0, .ref (gA G 44)), (1, .int bk), (2, .int mi)]) hx hb d_MO_closeRun_86 hl (k := 1) rfl (by decide) (by decide) rfl (fun ls hl => ?_)
      refine lv_goto (tgt := 36) hx hb d_MO_closeRun_89 (by decide) ?_
      refine lv_iload hx hb d_MO_closeRun_36 (lv_at hl 0 rfl) ?_
      refine lv_iconst (v := 3) hx hb d_MO_closeRun_38 (by decide) ?_
      refine lv_icmp_ge (tgt := 92) hx hb d_MO_closeRun_39 (by decide) (fun h => absurd h (by decide)) (fun _ => ?_)
      refine lv_aload_n hx hb d_MO_closeRun_42 rfl (lv_at hl 3 rfl) ?_
      refine r_get hx hb hC hP i_MO (44) (by decide) rfl rfl 15 (by decide) l_MO_38 rfl d_MO_closeRun_43 ?_
      refine lv_iload hx hb d_MO_closeRun_46 (lv_at hl 0 rfl) ?_
      refine lv_dup2_11 hx hb d_MO_closeRun_48 rfl rfl ?_
      refine r_ild hx hb hC hP (53) (by decide) rfl 2 rfl (by decide) (by decide) d_MO_closeRun_49 ?_
      rw [show (su (su (su S 44 13 (nI q)) 53 0 ((S 53 0) - (S 52 (3 * q)))) 53 1 ((S 53 1) - (S 52 (3 * q + 1)))) 53 2 = S 53 2 from by rw [su_int _ _ _ (by decide), su_int _ _ _ (by decide), su_cell _ _ _ (by decide)]]
      refine lv_aload_n hx hb d_MO_closeRun_50 rfl (lv_at hl 3 rfl) ?_
      refine r_get hx hb hC hP i_MO (44) (by decide) rfl rfl 14 (by decide) l_MO_35 rfl d_MO_closeRun_51 ?_
      refine lv_iconst (v := 3) hx hb d_MO_closeRun_54 (by decide) ?_
      refine lv_aload_n hx hb d_MO_closeRun_55 rfl (lv_at hl 3 rfl) ?_
      refine r_get hx hb hC hP i_MO (44) (by decide) rfl rfl 13 (by decide) l_MO_111 rfl d_MO_closeRun_56 ?_
      rw [show (su (su (su S 44 13 (nI q)) 53 0 ((S 53 0) - (S 52 (3 * q)))) 53 1 ((S 53 1) - (S 52 (3 * q + 1)))) 44 13 = nI q from by rw [su_cell _ _ _ (by decide), su_cell _ _ _ (by decide), su_same]]
      refine lv_imul hx hb d_MO_closeRun_59 ?_
      refine lv_iload hx hb d_MO_closeRun_60 (lv_at hl 0 rfl) ?_
      refine lv_iadd hx hb d_MO_closeRun_62 ?_
      rw [show (3 * (nI q)) + 2 = nI (3 * q + 2) from (nI_m3 q 2)]
      refine r_ild hx hb hC hP (52) (by decide) rfl (3 * q + 2) rfl (by omega) (by decide) d_MO_closeRun_63 ?_
      rw [show (su (su (su S 44 13 (nI q)) 53 0 ((S 53 0) - (S 52 (3 * q)))) 53 1 ((S 53 1) - (S 52 (3 * q + 1)))) 52 (3 * q + 2) = S 52 (3 * q + 2) from by rw [su_cell _ _ _ (by decide), su_cell _ _ _ (by decide), su_cell _ _ _ (by decide)]]
      refine lv_isub hx hb d_MO_closeRun_64 ?_
      refine r_ist hx hb hC hP hS (53) (by decide) (fun _ => rfl) 2 rfl (by decide) (by decide) d_MO_closeRun_65 (fun H locs hP hS => ?_)
      refine lv_aload_n hx hb d_MO_closeRun_66 rfl (lv_at hl 3 rfl) ?_
      refine r_get hx hb hC hP i_MO (44) (by decide) rfl rfl 14 (by decide) l_MO_35 rfl d_MO_closeRun_67 ?_
      refine lv_iconst (v := 3) hx hb d_MO_closeRun_70 (by decide) ?_
      refine lv_aload_n hx hb d_MO_closeRun_71 rfl (lv_at hl 3 rfl) ?_
      refine r_get hx hb hC hP i_MO (44) (by decide) rfl rfl 13 (by decide) l_MO_111 rfl d_MO_closeRun_72 ?_
      rw [show (su (su (su (su S 44 13 (nI q)) 53 0 ((S 53 0) - (S 52 (3 * q)))) 53 1 ((S 53 1) - (S 52 (3 * q + 1)))) 53 2 ((S 53 2) - (S 52 (3 * q + 2)))) 44 13 = nI q from by rw [su_cell _ _ _ (by decide), su_cell _ _ _ (by decide), su_cell _ _ _ (by decide), su_same]]
      refine lv_imul hx hb d_MO_closeRun_75 ?_
      refine lv_iload hx hb d_MO_closeRun_76 (lv_at hl 0 rfl) ?_
      refine lv_iadd hx hb d_MO_closeRun_78 ?_
      rw [show (3 * (nI q)) + 2 = nI (3 * q + 2) from (nI_m3 q 2)]
      refine r_ild hx hb hC hP (52) (by decide) rfl (3 * q + 2) rfl (by omega) (by decide) d_MO_closeRun_79 ?_
      rw [show (su (su (su (su S 44 13 (nI q)) 53 0 ((S 53 0) - (S 52 (3 * q)))) 53 1 ((S 53 1) - (S 52 (3 * q + 1)))) 53 2 ((S 53 2) - (S 52 (3 * q + 2)))) 52 (3 * q + 2) = S 52 (3 * q + 2) from by rw [su_cell _ _ _ (by decide), su_cell _ _ _ (by decide), su_cell _ _ _ (by decide), su_cell _ _ _ (by decide)]]
      refine lv_if_le (tgt := 86) hx hb d_MO_closeRun_80 (by decide) (fun c_80xx => ?_) (fun c_80xx => ?_)
      · refine lv_iinc (v := 3) (lv' := [(5, .int 3), (4, .int 1), (3, .int (S 44 12)), (0, .ref (gA G 44)), (1, .int bk), (2, .int mi)]) hx hb d_MO_closeRun_86 hl (k := 0) rfl (by decide) (by decide) rfl (fun ls hl => ?_)
        refine lv_goto (tgt := 36) hx hb d_MO_closeRun_89 (by decide) ?_
        refine lv_iload hx hb d_MO_closeRun_36 (lv_at hl 0 rfl) ?_
        refine lv_iconst (v := 3) hx hb d_MO_closeRun_38 (by decide) ?_
        refine lv_icmp_ge (tgt := 92) hx hb d_MO_closeRun_39 (by decide) (fun _ => ?_) (fun h => absurd h (by decide))
        refine lv_iload hx hb d_MO_closeRun_92 (lv_at hl 1 rfl) ?_
        refine lv_if_eq (tgt := 118) hx hb d_MO_closeRun_94 (by decide) (fun h => absurd h (by decide)) (fun _ => ?_)
        refine lv_aload_n hx hb d_MO_closeRun_97 rfl (lv_at hl 3 rfl) ?_
        refine lv_iconst (v := 4) hx hb d_MO_closeRun_98 (by decide) ?_
        refine lv_aload_n hx hb d_MO_closeRun_99 rfl (lv_at hl 3 rfl) ?_
        refine r_get hx hb hC hP i_MO (44) (by decide) rfl rfl 11 (by decide) l_MO_92 rfl d_MO_closeRun_100 ?_
        rw [show (su (su (su (su S 44 13 (nI q)) 53 0 ((S 53 0) - (S 52 (3 * q)))) 53 1 ((S 53 1) - (S 52 (3 * q + 1)))) 53 2 ((S 53 2) - (S 52 (3 * q + 2)))) 44 11 = S 44 11 from by rw [su_cell _ _ _ (by decide), su_cell _ _ _ (by decide), su_cell _ _ _ (by decide), su_int _ _ _ (by decide)]]
        rw [show S 44 11 = 3 from he]
        refine lv_iconst (v := 4) hx hb d_MO_closeRun_103 (by decide) ?_
        refine lv_icmp_ne (tgt := 114) hx hb d_MO_closeRun_104 (by decide) (fun _ => ?_) (fun h => absurd h (by decide))
        refine lv_iconst (v := 0) hx hb d_MO_closeRun_114 (by decide) ?_
        refine r_v hC hS (r_runV (np := 2) (As := [.int 4, .int 0]) (rest := []) hx hb hml hC hP hS (by decide) rfl rfl (m_MO_raise l G (su (su (su (su S 44 13 (nI q)) 53 0 ((S 53 0) - (S 52 (3 * q)))) 53 1 ((S 53 1) - (S 52 (3 * q + 1)))) 53 2 ((S 53 2) - (S 52 (3 * q + 2)))) n (by omega) (by rw [su_cell _ _ _ (by decide), su_cell _ _ _ (by decide), su_cell _ _ _ (by decide), su_int _ _ _ (by decide)]; exact hn) 4 0) l_MO_124 im_MO_raise se_MO_raise in_MO c_MO_raise_in (by decide +kernel) ⟨by simp only [rmF]; omega, by simp only [rmF]; omega⟩ rfl hl.1 (Nat.le_of_ble_eq_true rfl) d_MO_closeRun_115 ⟨Nat.le_refl _, Nat.le_refl _⟩) (fun S_115 H locs hw hP hS => ?_)
        rw [hw] at hP
        refine lv_aload_n hx hb d_MO_closeRun_118 rfl (lv_at hl 3 rfl) ?_
        refine r_get hx hb hC hP i_MO (44) (by decide) rfl rfl 11 (by decide) l_MO_92 rfl d_MO_closeRun_119 ?_
        rw [show (moRaise (su (su (su (su S 44 13 (nI q)) 53 0 ((S 53 0) - (S 52 (3 * q)))) 53 1 ((S 53 1) - (S 52 (3 * q + 1)))) 53 2 ((S 53 2) - (S 52 (3 * q + 2)))) n 4 0) 44 11 = 4 from (moRaise_11 _ _ _ _)]
        refine lv_iconst (v := 4) hx hb d_MO_closeRun_122 (by decide) ?_
        refine lv_icmp_ne (tgt := 132) hx hb d_MO_closeRun_123 (by decide) (fun h => absurd h (by decide)) (fun _ => ?_)
        refine lv_aload_n hx hb d_MO_closeRun_126 rfl (lv_at hl 3 rfl) ?_
        refine lv_iload_n hx hb d_MO_closeRun_127 rfl (lv_at hl 5 rfl) ?_
        refine r_put hx hb hC hP hS i_MO t_MO t_MO_ok n_MO (44) (by decide) rfl rfl 10 (by decide) l_MO_121 rfl rfl rfl (Nat.le_of_ble_eq_true rfl) d_MO_closeRun_128 (fun H locs hP hS => ?_)
        exact e_v hx hb hr hlk hC hP hS d_MO_closeRun_131 (by rw [moOwes, decide_eq_true (Int32.not_le.mp c_80), decide_eq_true (Int32.not_le.mp c_80x), decide_eq_false (Int32.not_lt.mpr c_80xx)] at how; exact absurd how (by decide))
      · refine lv_iconst (v := 1) hx hb d_MO_closeRun_83 (by decide) ?_
        refine lv_istore (lv' := [(4, .int 1), (5, .int 2), (3, .int (S 44 12)), (0, .ref (gA G 44)), (1, .int bk), (2, .int mi)]) hx hb d_MO_closeRun_84 hl (by decide) rfl (fun ls hl => ?_)
        refine lv_iinc (v := 3) (lv' := [(5, .int 3), (4, .int 1), (3, .int (S 44 12)), (0, .ref (gA G 44)), (1, .int bk), (2, .int mi)]) hx hb d_MO_closeRun_86 hl (k := 1) rfl (by decide) (by decide) rfl (fun ls hl => ?_)
        refine lv_goto (tgt := 36) hx hb d_MO_closeRun_89 (by decide) ?_
        refine lv_iload hx hb d_MO_closeRun_36 (lv_at hl 0 rfl) ?_
        refine lv_iconst (v := 3) hx hb d_MO_closeRun_38 (by decide) ?_
        refine lv_icmp_ge (tgt := 92) hx hb d_MO_closeRun_39 (by decide) (fun _ => ?_) (fun h => absurd h (by decide))
        refine lv_iload hx hb d_MO_closeRun_92 (lv_at hl 1 rfl) ?_
        refine lv_if_eq (tgt := 118) hx hb d_MO_closeRun_94 (by decide) (fun h => absurd h (by decide)) (fun _ => ?_)
        refine lv_aload_n hx hb d_MO_closeRun_97 rfl (lv_at hl 3 rfl) ?_
        refine lv_iconst (v := 4) hx hb d_MO_closeRun_98 (by decide) ?_
        refine lv_aload_n hx hb d_MO_closeRun_99 rfl (lv_at hl 3 rfl) ?_
        refine r_get hx hb hC hP i_MO (44) (by decide) rfl rfl 11 (by decide) l_MO_92 rfl d_MO_closeRun_100 ?_
        rw [show (su (su (su (su S 44 13 (nI q)) 53 0 ((S 53 0) - (S 52 (3 * q)))) 53 1 ((S 53 1) - (S 52 (3 * q + 1)))) 53 2 ((S 53 2) - (S 52 (3 * q + 2)))) 44 11 = S 44 11 from by rw [su_cell _ _ _ (by decide), su_cell _ _ _ (by decide), su_cell _ _ _ (by decide), su_int _ _ _ (by decide)]]
        rw [show S 44 11 = 3 from he]
        refine lv_iconst (v := 4) hx hb d_MO_closeRun_103 (by decide) ?_
        refine lv_icmp_ne (tgt := 114) hx hb d_MO_closeRun_104 (by decide) (fun _ => ?_) (fun h => absurd h (by decide))
        refine lv_iconst (v := 0) hx hb d_MO_closeRun_114 (by decide) ?_
        refine r_v hC hS (r_runV (np := 2) (As := [.int 4, .int 0]) (rest := []) hx hb hml hC hP hS (by decide) rfl rfl (m_MO_raise l G (su (su (su (su S 44 13 (nI q)) 53 0 ((S 53 0) - (S 52 (3 * q)))) 53 1 ((S 53 1) - (S 52 (3 * q + 1)))) 53 2 ((S 53 2) - (S 52 (3 * q + 2)))) n (by omega) (by rw [su_cell _ _ _ (by decide), su_cell _ _ _ (by decide), su_cell _ _ _ (by decide), su_int _ _ _ (by decide)]; exact hn) 4 0) l_MO_124 im_MO_raise se_MO_raise in_MO c_MO_raise_in (by decide +kernel) ⟨by simp only [rmF]; omega, by simp only [rmF]; omega⟩ rfl hl.1 (Nat.le_of_ble_eq_true rfl) d_MO_closeRun_115 ⟨Nat.le_refl _, Nat.le_refl _⟩) (fun S_115 H locs hw hP hS => ?_)
        rw [hw] at hP
        refine lv_aload_n hx hb d_MO_closeRun_118 rfl (lv_at hl 3 rfl) ?_
        refine r_get hx hb hC hP i_MO (44) (by decide) rfl rfl 11 (by decide) l_MO_92 rfl d_MO_closeRun_119 ?_
        rw [show (moRaise (su (su (su (su S 44 13 (nI q)) 53 0 ((S 53 0) - (S 52 (3 * q)))) 53 1 ((S 53 1) - (S 52 (3 * q + 1)))) 53 2 ((S 53 2) - (S 52 (3 * q + 2)))) n 4 0) 44 11 = 4 from (moRaise_11 _ _ _ _)]
        refine lv_iconst (v := 4) hx hb d_MO_closeRun_122 (by decide) ?_
        refine lv_icmp_ne (tgt := 132) hx hb d_MO_closeRun_123 (by decide) (fun h => absurd h (by decide)) (fun _ => ?_)
        refine lv_aload_n hx hb d_MO_closeRun_126 rfl (lv_at hl 3 rfl) ?_
        refine lv_iload_n hx hb d_MO_closeRun_127 rfl (lv_at hl 5 rfl) ?_
        refine r_put hx hb hC hP hS i_MO t_MO t_MO_ok n_MO (44) (by decide) rfl rfl 10 (by decide) l_MO_121 rfl rfl rfl (Nat.le_of_ble_eq_true rfl) d_MO_closeRun_128 (fun H locs hP hS => ?_)
        exact e_v hx hb hr hlk hC hP hS d_MO_closeRun_131 (by rw [moOwes, decide_eq_true (Int32.not_le.mp c_80), decide_eq_true (Int32.not_le.mp c_80x), decide_eq_true (Int32.not_le.mp c_80xx)] at how; exact absurd how (by decide))

set_option maxHeartbeats 4000000 in
set_option maxRecDepth 100000 in
theorem m_MO_closeRunV0 (l : Launch) (G : WG) (S : SS) (q : Nat) (hq6 : q < 6) (hq : S 44 13 = nI (q + 1)) (bk mi : Int32) (he : S 44 11 = 0) (how : moOwes S q = false) (n : Nat) (hn6 : n < 600) (hn : S 44 18 = nI n) : Cv l y_MO_closeRun b_MO_closeRun 6 2 G [.ref (gA G 44), .int bk, .int mi] S (fun S1 => S1 = su (su (su (crH S q) 44 11 0) 44 10 (S 44 10)) 44 9 bk) := by
  refine mk l (by decide +kernel) (Nat.le_of_ble_eq_true rfl) ?_
  intro pp_ ee_ ss_ mm_ be_ me_ co_ ls hx hb hr hlk hml hC hP hS hl
  have hl : lv_has ls 6 [(0, .ref (gA G 44)), (1, .int bk), (2, .int mi)] := hl
  refine lv_aload_n hx hb d_MO_closeRun_0 rfl (lv_at hl 0 rfl) ?_
  refine r_get hx hb hC hP i_MO (44) (by decide) rfl rfl 11 (by decide) l_MO_92 rfl d_MO_closeRun_1 ?_
  rw [show S 44 11 = 0 from he]
  refine lv_iconst (v := 3) hx hb d_MO_closeRun_4 (by decide) ?_
  refine lv_icmp_ne (tgt := 15) hx hb d_MO_closeRun_5 (by decide) (fun _ => ?_) (fun h => absurd h (by decide))
  refine lv_aload_n hx hb d_MO_closeRun_15 rfl (lv_at hl 0 rfl) ?_
  refine r_get hx hb hC hP i_MO (44) (by decide) rfl rfl 10 (by decide) l_MO_121 rfl d_MO_closeRun_16 ?_
  refine lv_istore_n (lv' := [(3, .int (S 44 10)), (0, .ref (gA G 44)), (1, .int bk), (2, .int mi)]) hx hb d_MO_closeRun_19 rfl hl (by decide) rfl (fun ls hl => ?_)
  refine lv_iconst (v := 0) hx hb d_MO_closeRun_20 (by decide) ?_
  refine lv_istore (lv' := [(4, .int 0), (3, .int (S 44 10)), (0, .ref (gA G 44)), (1, .int bk), (2, .int mi)]) hx hb d_MO_closeRun_21 hl (by decide) rfl (fun ls hl => ?_)
  refine lv_aload_n hx hb d_MO_closeRun_23 rfl (lv_at hl 2 rfl) ?_
  refine lv_dup hx hb d_MO_closeRun_24 rfl ?_
  refine r_get hx hb hC hP i_MO (44) (by decide) rfl rfl 13 (by decide) l_MO_111 rfl d_MO_closeRun_25 ?_
  rw [show S 44 13 = nI (q + 1) from hq]
  refine lv_iconst (v := 1) hx hb d_MO_closeRun_28 (by decide) ?_
  refine lv_isub hx hb d_MO_closeRun_29 ?_
  rw [show (nI (q + 1)) - 1 = nI q from nI_pred q]
  refine r_put hx hb hC hP hS i_MO t_MO t_MO_ok n_MO (44) (by decide) rfl rfl 13 (by decide) l_MO_111 rfl rfl rfl (Nat.le_of_ble_eq_true rfl) d_MO_closeRun_30 (fun H locs hP hS => ?_)
  refine lv_iconst (v := 0) hx hb d_MO_closeRun_33 (by decide) ?_
  refine lv_istore (lv' := [(5, .int 0), (4, .int 0), (3, .int (S 44 10)), (0, .ref (gA G 44)), (1, .int bk), (2, .int mi)]) hx hb d_MO_closeRun_34 hl (by decide) rfl (fun ls hl => ?_)
  refine lv_iload hx hb d_MO_closeRun_36 (lv_at hl 0 rfl) ?_
  refine lv_iconst (v := 3) hx hb d_MO_closeRun_38 (by decide) ?_
  refine lv_icmp_ge (tgt := 92) hx hb d_MO_closeRun_39 (by decide) (fun h => absurd h (by decide)) (fun _ => ?_)
  refine lv_aload_n hx hb d_MO_closeRun_42 rfl (lv_at hl 3 rfl) ?_
  refine r_get hx hb hC hP i_MO (44) (by decide) rfl rfl 15 (by decide) l_MO_38 rfl d_MO_closeRun_43 ?_
  refine lv_iload hx hb d_MO_closeRun_46 (lv_at hl 0 rfl) ?_
  refine lv_dup2_11 hx hb d_MO_closeRun_48 rfl rfl ?_
  refine r_ild hx hb hC hP (53) (by decide) rfl 0 rfl (by decide) (by decide) d_MO_closeRun_49 ?_
  rw [show (su S 44 13 (nI q)) 53 0 = S 53 0 from by rw [su_cell _ _ _ (by decide)]]
  refine lv_aload_n hx hb d_MO_closeRun_50 rfl (lv_at hl 3 rfl) ?_
  refine r_get hx hb hC hP i_MO (44) (by decide) rfl rfl 14 (by decide) l_MO_35 rfl d_MO_closeRun_51 ?_
  refine lv_iconst (v := 3) hx hb d_MO_closeRun_54 (by decide) ?_
  refine lv_aload_n hx hb d_MO_closeRun_55 rfl (lv_at hl 3 rfl) ?_
  refine r_get hx hb hC hP i_MO (44) (by decide) rfl rfl 13 (by decide) l_MO_111 rfl d_MO_closeRun_56 ?_
  rw [show (su S 44 13 (nI q)) 44 13 = nI q from by rw [su_same]]
  refine lv_imul hx hb d_MO_closeRun_59 ?_
  refine lv_iload hx hb d_MO_closeRun_60 (lv_at hl 0 rfl) ?_
  refine lv_iadd hx hb d_MO_closeRun_62 ?_
  rw [show (3 * (nI q)) + 0 = nI (3 * q) from (nI_m3 q 0)]
  refine r_ild hx hb hC hP (52) (by decide) rfl (3 * q) rfl (by omega) (by decide) d_MO_closeRun_63 ?_
  rw [show (su S 44 13 (nI q)) 52 (3 * q) = S 52 (3 * q) from by rw [su_cell _ _ _ (by decide)]]
  refine lv_isub hx hb d_MO_closeRun_64 ?_
  refine r_ist hx hb hC hP hS (53) (by decide) (fun _ => rfl) 0 rfl (by decide) (by decide) d_MO_closeRun_65 (fun H locs hP hS => ?_)
  refine lv_aload_n hx hb d_MO_closeRun_66 rfl (lv_at hl 3 rfl) ?_
  refine r_get hx hb hC hP i_MO (44) (by decide) rfl rfl 14 (by decide) l_MO_35 rfl d_MO_closeRun_67 ?_
  refine lv_iconst (v := 3) hx hb d_MO_closeRun_70 (by decide) ?_
  refine lv_aload_n hx hb d_MO_closeRun_71 rfl (lv_at hl 3 rfl) ?_
  refine r_get hx hb hC hP i_MO (44) (by decide) rfl rfl 13 (by decide) l_MO_111 rfl d_MO_closeRun_72 ?_
  rw [show (su (su S 44 13 (nI q)) 53 0 ((S 53 0) - (S 52 (3 * q)))) 44 13 = nI q from by rw [su_cell _ _ _ (by decide), su_same]]
  refine lv_imul hx hb d_MO_closeRun_75 ?_
  refine lv_iload hx hb d_MO_closeRun_76 (lv_at hl 0 rfl) ?_
  refine lv_iadd hx hb d_MO_closeRun_78 ?_
  rw [show (3 * (nI q)) + 0 = nI (3 * q) from (nI_m3 q 0)]
  refine r_ild hx hb hC hP (52) (by decide) rfl (3 * q) rfl (by omega) (by decide) d_MO_closeRun_79 ?_
  rw [show (su (su S 44 13 (nI q)) 53 0 ((S 53 0) - (S 52 (3 * q)))) 52 (3 * q) = S 52 (3 * q) from by rw [su_cell _ _ _ (by decide), su_cell _ _ _ (by decide)]]
  refine lv_if_le (tgt := 86) hx hb d_MO_closeRun_80 (by decide) (fun c_80 => ?_) (fun c_80 => ?_)
  · refine lv_iinc (v := 1) (lv' := [(5, .int 1), (4, .int 0), (3, .int (S 44 10)), (0, .ref (gA G 44)), (1, .int bk), (2, .int mi)]) hx hb d_MO_closeRun_86 hl (k := 0) rfl (by decide) (by decide) rfl (fun ls hl => ?_)
    refine lv_goto (tgt := 36) hx hb d_MO_closeRun_89 (by decide) ?_
    refine lv_iload hx hb d_MO_closeRun_36 (lv_at hl 0 rfl) ?_
    refine lv_iconst (v := 3) hx hb d_MO_closeRun_38 (by decide) ?_
    refine lv_icmp_ge (tgt := 92) hx hb d_MO_closeRun_39 (by decide) (fun h => absurd h (by decide)) (fun _ => ?_)
    refine lv_aload_n hx hb d_MO_closeRun_42 rfl (lv_at hl 3 rfl) ?_
    refine r_get hx hb hC hP i_MO (44) (by decide) rfl rfl 15 (by decide) l_MO_38 rfl d_MO_closeRun_43 ?_
    refine lv_iload hx hb d_MO_closeRun_46 (lv_at hl 0 rfl) ?_
    refine lv_dup2_11 hx hb d_MO_closeRun_48 rfl rfl ?_
    refine r_ild hx hb hC hP (53) (by decide) rfl 1 rfl (by decide) (by decide) d_MO_closeRun_49 ?_
    rw [show (su (su S 44 13 (nI q)) 53 0 ((S 53 0) - (S 52 (3 * q)))) 53 1 = S 53 1 from by rw [su_int _ _ _ (by decide), su_cell _ _ _ (by decide)]]
    refine lv_aload_n hx hb d_MO_closeRun_50 rfl (lv_at hl 3 rfl) ?_
    refine r_get hx hb hC hP i_MO (44) (by decide) rfl rfl 14 (by decide) l_MO_35 rfl d_MO_closeRun_51 ?_
    refine lv_iconst (v := 3) hx hb d_MO_closeRun_54 (by decide) ?_
    refine lv_aload_n hx hb d_MO_closeRun_55 rfl (lv_at hl 3 rfl) ?_
    refine r_get hx hb hC hP i_MO (44) (by decide) rfl rfl 13 (by decide) l_MO_111 rfl d_MO_closeRun_56 ?_
    rw [show (su (su S 44 13 (nI q)) 53 0 ((S 53 0) - (S 52 (3 * q)))) 44 13 = nI q from by rw [su_cell _ _ _ (by decide), su_same]]
    refine lv_imul hx hb d_MO_closeRun_59 ?_
    refine lv_iload hx hb d_MO_closeRun_60 (lv_at hl 0 rfl) ?_
    refine lv_iadd hx hb d_MO_closeRun_62 ?_
    rw [show (3 * (nI q)) + 1 = nI (3 * q + 1) from (nI_m3 q 1)]
    refine r_ild hx hb hC hP (52) (by decide) rfl (3 * q + 1) rfl (by omega) (by decide) d_MO_closeRun_63 ?_
    rw [show (su (su S 44 13 (nI q)) 53 0 ((S 53 0) - (S 52 (3 * q)))) 52 (3 * q + 1) = S 52 (3 * q + 1) from by rw [su_cell _ _ _ (by decide), su_cell _ _ _ (by decide)]]
    refine lv_isub hx hb d_MO_closeRun_64 ?_
    refine r_ist hx hb hC hP hS (53) (by decide) (fun _ => rfl) 1 rfl (by decide) (by decide) d_MO_closeRun_65 (fun H locs hP hS => ?_)
    refine lv_aload_n hx hb d_MO_closeRun_66 rfl (lv_at hl 3 rfl) ?_
    refine r_get hx hb hC hP i_MO (44) (by decide) rfl rfl 14 (by decide) l_MO_35 rfl d_MO_closeRun_67 ?_
    refine lv_iconst (v := 3) hx hb d_MO_closeRun_70 (by decide) ?_
    refine lv_aload_n hx hb d_MO_closeRun_71 rfl (lv_at hl 3 rfl) ?_
    refine r_get hx hb hC hP i_MO (44) (by decide) rfl rfl 13 (by decide) l_MO_111 rfl d_MO_closeRun_72 ?_
    rw [show (su (su (su S 44 13 (nI q)) 53 0 ((S 53 0) - (S 52 (3 * q)))) 53 1 ((S 53 1) - (S 52 (3 * q + 1)))) 44 13 = nI q from by rw [su_cell _ _ _ (by decide), su_cell _ _ _ (by decide), su_same]]
    refine lv_imul hx hb d_MO_closeRun_75 ?_
    refine lv_iload hx hb d_MO_closeRun_76 (lv_at hl 0 rfl) ?_
    refine lv_iadd hx hb d_MO_closeRun_78 ?_
    rw [show (3 * (nI q)) + 1 = nI (3 * q + 1) from (nI_m3 q 1)]
    refine r_ild hx hb hC hP (52) (by decide) rfl (3 * q + 1) rfl (by omega) (by decide) d_MO_closeRun_79 ?_
    rw [show (su (su (su S 44 13 (nI q)) 53 0 ((S 53 0) - (S 52 (3 * q)))) 53 1 ((S 53 1) - (S 52 (3 * q + 1)))) 52 (3 * q + 1) = S 52 (3 * q + 1) from by rw [su_cell _ _ _ (by decide), su_cell _ _ _ (by decide), su_cell _ _ _ (by decide)]]
    refine lv_if_le (tgt := 86) hx hb d_MO_closeRun_80 (by decide) (fun c_80x => ?_) (fun c_80x => ?_)
    · refine lv_iinc (v := 2) (lv' := [(5, .int 2), (4, .int 0), (3, .int (S 44 10)), (0, .ref (gA G 44)), (1, .int bk), (2, .int mi)]) hx hb d_MO_closeRun_86 hl (k := 0) rfl (by decide) (by decide) rfl (fun ls hl => ?_)
      refine lv_goto (tgt := 36) hx hb d_MO_closeRun_89 (by decide) ?_
      refine lv_iload hx hb d_MO_closeRun_36 (lv_at hl 0 rfl) ?_
      refine lv_iconst (v := 3) hx hb d_MO_closeRun_38 (by decide) ?_
      refine lv_icmp_ge (tgt := 92) hx hb d_MO_closeRun_39 (by decide) (fun h => absurd h (by decide)) (fun _ => ?_)
      refine lv_aload_n hx hb d_MO_closeRun_42 rfl (lv_at hl 3 rfl) ?_
      refine r_get hx hb hC hP i_MO (44) (by decide) rfl rfl 15 (by decide) l_MO_38 rfl d_MO_closeRun_43 ?_
      refine lv_iload hx hb d_MO_closeRun_46 (lv_at hl 0 rfl) ?_
      refine lv_dup2_11 hx hb d_MO_closeRun_48 rfl rfl ?_
      refine r_ild hx hb hC hP (53) (by decide) rfl 2 rfl (by decide) (by decide) d_MO_closeRun_49 ?_
      rw [show (su (su (su S 44 13 (nI q)) 53 0 ((S 53 0) - (S 52 (3 * q)))) 53 1 ((S 53 1) - (S 52 (3 * q + 1)))) 53 2 = S 53 2 from by rw [su_int _ _ _ (by decide), su_int _ _ _ (by decide), su_cell _ _ _ (by decide)]]
      refine lv_aload_n hx hb d_MO_closeRun_50 rfl (lv_at hl 3 rfl) ?_
      refine r_get hx hb hC hP i_MO (44) (by decide) rfl rfl 14 (by decide) l_MO_35 rfl d_MO_closeRun_51 ?_
      refine lv_iconst (v := 3) hx hb d_MO_closeRun_54 (by decide) ?_
      refine lv_aload_n hx hb d_MO_closeRun_55 rfl (lv_at hl 3 rfl) ?_
      refine r_get hx hb hC hP i_MO (44) (by decide) rfl rfl 13 (by decide) l_MO_111 rfl d_MO_closeRun_56 ?_
      rw [show (su (su (su S 44 13 (nI q)) 53 0 ((S 53 0) - (S 52 (3 * q)))) 53 1 ((S 53 1) - (S 52 (3 * q + 1)))) 44 13 = nI q from by rw [su_cell _ _ _ (by decide), su_cell _ _ _ (by decide), su_same]]
      refine lv_imul hx hb d_MO_closeRun_59 ?_
      refine lv_iload hx hb d_MO_closeRun_60 (lv_at hl 0 rfl) ?_
      refine lv_iadd hx hb d_MO_closeRun_62 ?_
      rw [show (3 * (nI q)) + 2 = nI (3 * q + 2) from (nI_m3 q 2)]
      refine r_ild hx hb hC hP (52) (by decide) rfl (3 * q + 2) rfl (by omega) (by decide) d_MO_closeRun_63 ?_
      rw [show (su (su (su S 44 13 (nI q)) 53 0 ((S 53 0) - (S 52 (3 * q)))) 53 1 ((S 53 1) - (S 52 (3 * q + 1)))) 52 (3 * q + 2) = S 52 (3 * q + 2) from by rw [su_cell _ _ _ (by decide), su_cell _ _ _ (by decide), su_cell _ _ _ (by decide)]]
      refine lv_isub hx hb d_MO_closeRun_64 ?_
      refine r_ist hx hb hC hP hS (53) (by decide) (fun _ => rfl) 2 rfl (by decide) (by decide) d_MO_closeRun_65 (fun H locs hP hS => ?_)
      refine lv_aload_n hx hb d_MO_closeRun_66 rfl (lv_at hl 3 rfl) ?_
      refine r_get hx hb hC hP i_MO (44) (by decide) rfl rfl 14 (by decide) l_MO_35 rfl d_MO_closeRun_67 ?_
      refine lv_iconst (v := 3) hx hb d_MO_closeRun_70 (by decide) ?_
      refine lv_aload_n hx hb d_MO_closeRun_71 rfl (lv_at hl 3 rfl) ?_
      refine r_get hx hb hC hP i_MO (44) (by decide) rfl rfl 13 (by decide) l_MO_111 rfl d_MO_closeRun_72 ?_
      rw [show (su (su (su (su S 44 13 (nI q)) 53 0 ((S 53 0) - (S 52 (3 * q)))) 53 1 ((S 53 1) - (S 52 (3 * q + 1)))) 53 2 ((S 53 2) - (S 52 (3 * q + 2)))) 44 13 = nI q from by rw [su_cell _ _ _ (by decide), su_cell _ _ _ (by decide), su_cell _ _ _ (by decide), su_same]]
      refine lv_imul hx hb d_MO_closeRun_75 ?_
      refine lv_iload hx hb d_MO_closeRun_76 (lv_at hl 0 rfl) ?_
      refine lv_iadd hx hb d_MO_closeRun_78 ?_
      rw [show (3 * (nI q)) + 2 = nI (3 * q + 2) from (nI_m3 q 2)]
      refine r_ild hx hb hC hP (52) (by decide) rfl (3 * q + 2) rfl (by omega) (by decide) d_MO_closeRun_79 ?_
      rw [show (su (su (su (su S 44 13 (nI q)) 53 0 ((S 53 0) - (S 52 (3 * q)))) 53 1 ((S 53 1) - (S 52 (3 * q + 1)))) 53 2 ((S 53 2) - (S 52 (3 * q + 2)))) 52 (3 * q + 2) = S 52 (3 * q + 2) from by rw [su_cell _ _ _ (by decide), su_cell _ _ _ (by decide), su_cell _ _ _ (by decide), su_cell _ _ _ (by decide)]]
      refine lv_if_le (tgt := 86) hx hb d_MO_closeRun_80 (by decide) (fun c_80xx => ?_) (fun c_80xx => ?_)
      · refine lv_iinc (v := 3) (lv' := [(5, .int 3), (4, .int 0), (3, .int (S 44 10)), (0, .ref (gA G 44)), (1, .int bk), (2, .int mi)]) hx hb d_MO_closeRun_86 hl (k := 0) rfl (by decide) (by decide) rfl (fun ls hl => ?_)
        refine lv_goto (tgt := 36) hx hb d_MO_closeRun_89 (by decide) ?_
        refine lv_iload hx hb d_MO_closeRun_36 (lv_at hl 0 rfl) ?_
        refine lv_iconst (v := 3) hx hb d_MO_closeRun_38 (by decide) ?_
        refine lv_icmp_ge (tgt := 92) hx hb d_MO_closeRun_39 (by decide) (fun _ => ?_) (fun h => absurd h (by decide))
        refine lv_iload hx hb d_MO_closeRun_92 (lv_at hl 1 rfl) ?_
        refine lv_if_eq (tgt := 118) hx hb d_MO_closeRun_94 (by decide) (fun _ => ?_) (fun h => absurd h (by decide))
        refine lv_aload_n hx hb d_MO_closeRun_118 rfl (lv_at hl 3 rfl) ?_
        refine r_get hx hb hC hP i_MO (44) (by decide) rfl rfl 11 (by decide) l_MO_92 rfl d_MO_closeRun_119 ?_
        rw [show (su (su (su (su S 44 13 (nI q)) 53 0 ((S 53 0) - (S 52 (3 * q)))) 53 1 ((S 53 1) - (S 52 (3 * q + 1)))) 53 2 ((S 53 2) - (S 52 (3 * q + 2)))) 44 11 = S 44 11 from by rw [su_cell _ _ _ (by decide), su_cell _ _ _ (by decide), su_cell _ _ _ (by decide), su_int _ _ _ (by decide)]]
        rw [show S 44 11 = 0 from he]
        refine lv_iconst (v := 4) hx hb d_MO_closeRun_122 (by decide) ?_
        refine lv_icmp_ne (tgt := 132) hx hb d_MO_closeRun_123 (by decide) (fun _ => ?_) (fun h => absurd h (by decide))
        refine lv_aload_n hx hb d_MO_closeRun_132 rfl (lv_at hl 3 rfl) ?_
        refine lv_iconst (v := 0) hx hb d_MO_closeRun_133 (by decide) ?_
        refine r_put hx hb hC hP hS i_MO t_MO t_MO_ok n_MO (44) (by decide) rfl rfl 11 (by decide) l_MO_92 rfl rfl rfl (Nat.le_of_ble_eq_true rfl) d_MO_closeRun_134 (fun H locs hP hS => ?_)
        refine lv_aload_n hx hb d_MO_closeRun_137 rfl (lv_at hl 3 rfl) ?_
        refine lv_iload_n hx hb d_MO_closeRun_138 rfl (lv_at hl 2 rfl) ?_
        refine r_put hx hb hC hP hS i_MO t_MO t_MO_ok n_MO (44) (by decide) rfl rfl 10 (by decide) l_MO_121 rfl rfl rfl (Nat.le_of_ble_eq_true rfl) d_MO_closeRun_139 (fun H locs hP hS => ?_)
        refine lv_aload_n hx hb d_MO_closeRun_142 rfl (lv_at hl 3 rfl) ?_
        refine lv_iload_n hx hb d_MO_closeRun_143 rfl (lv_at hl 4 rfl) ?_
        refine r_put hx hb hC hP hS i_MO t_MO t_MO_ok n_MO (44) (by decide) rfl rfl 9 (by decide) l_MO_86 rfl rfl rfl (Nat.le_of_ble_eq_true rfl) d_MO_closeRun_144 (fun H locs hP hS => ?_)
        exact e_v hx hb hr hlk hC hP hS d_MO_closeRun_147 rfl
      · refine lv_iconst (v := 1) hx hb d_MO_closeRun_83 (by decide) ?_
        refine lv_istore (lv' := [(4, .int 1), (5, .int 2), (3, .int (S 44 10)), (0, .ref (gA G 44)), (1, .int bk), (2, .int mi)]) hx hb d_MO_closeRun_84 hl (by decide) rfl (fun ls hl => ?_)
        refine lv_iinc (v := 3) (lv' := [(5, .int 3), (4, .int 1), (3, .int (S 44 10)), (0, .ref (gA G 44)), (1, .int bk), (2, .int mi)]) hx hb d_MO_closeRun_86 hl (k := 1) rfl (by decide) (by decide) rfl (fun ls hl => ?_)
        refine lv_goto (tgt := 36) hx hb d_MO_closeRun_89 (by decide) ?_
        refine lv_iload hx hb d_MO_closeRun_36 (lv_at hl 0 rfl) ?_
        refine lv_iconst (v := 3) hx hb d_MO_closeRun_38 (by decide) ?_
        refine lv_icmp_ge (tgt := 92) hx hb d_MO_closeRun_39 (by decide) (fun _ => ?_) (fun h => absurd h (by decide))
        refine lv_iload hx hb d_MO_closeRun_92 (lv_at hl 1 rfl) ?_
        refine lv_if_eq (tgt := 118) hx hb d_MO_closeRun_94 (by decide) (fun h => absurd h (by decide)) (fun _ => ?_)
        refine lv_aload_n hx hb d_MO_closeRun_97 rfl (lv_at hl 3 rfl) ?_
        refine lv_iconst (v := 4) hx hb d_MO_closeRun_98 (by decide) ?_
        refine lv_aload_n hx hb d_MO_closeRun_99 rfl (lv_at hl 3 rfl) ?_
        refine r_get hx hb hC hP i_MO (44) (by decide) rfl rfl 11 (by decide) l_MO_92 rfl d_MO_closeRun_100 ?_
        rw [show (su (su (su (su S 44 13 (nI q)) 53 0 ((S 53 0) - (S 52 (3 * q)))) 53 1 ((S 53 1) - (S 52 (3 * q + 1)))) 53 2 ((S 53 2) - (S 52 (3 * q + 2)))) 44 11 = S 44 11 from by rw [su_cell _ _ _ (by decide), su_cell _ _ _ (by decide), su_cell _ _ _ (by decide), su_int _ _ _ (by decide)]]
        rw [show S 44 11 = 0 from he]
        refine lv_iconst (v := 4) hx hb d_MO_closeRun_103 (by decide) ?_
        refine lv_icmp_ne (tgt := 114) hx hb d_MO_closeRun_104 (by decide) (fun _ => ?_) (fun h => absurd h (by decide))
        refine lv_iconst (v := 0) hx hb d_MO_closeRun_114 (by decide) ?_
        refine r_v hC hS (r_runV (np := 2) (As := [.int 4, .int 0]) (rest := []) hx hb hml hC hP hS (by decide) rfl rfl (m_MO_raise l G (su (su (su (su S 44 13 (nI q)) 53 0 ((S 53 0) - (S 52 (3 * q)))) 53 1 ((S 53 1) - (S 52 (3 * q + 1)))) 53 2 ((S 53 2) - (S 52 (3 * q + 2)))) n (by omega) (by rw [su_cell _ _ _ (by decide), su_cell _ _ _ (by decide), su_cell _ _ _ (by decide), su_int _ _ _ (by decide)]; exact hn) 4 0) l_MO_124 im_MO_raise se_MO_raise in_MO c_MO_raise_in (by decide +kernel) ⟨by simp only [rmF]; omega, by simp only [rmF]; omega⟩ rfl hl.1 (Nat.le_of_ble_eq_true rfl) d_MO_closeRun_115 ⟨Nat.le_refl _, Nat.le_refl _⟩) (fun S_115 H locs hw hP hS => ?_)
        rw [hw] at hP
        refine lv_aload_n hx hb d_MO_closeRun_118 rfl (lv_at hl 3 rfl) ?_
        refine r_get hx hb hC hP i_MO (44) (by decide) rfl rfl 11 (by decide) l_MO_92 rfl d_MO_closeRun_119 ?_
        rw [show (moRaise (su (su (su (su S 44 13 (nI q)) 53 0 ((S 53 0) - (S 52 (3 * q)))) 53 1 ((S 53 1) - (S 52 (3 * q + 1)))) 53 2 ((S 53 2) - (S 52 (3 * q + 2)))) n 4 0) 44 11 = 4 from (moRaise_11 _ _ _ _)]
        refine lv_iconst (v := 4) hx hb d_MO_closeRun_122 (by decide) ?_
        refine lv_icmp_ne (tgt := 132) hx hb d_MO_closeRun_123 (by decide) (fun h => absurd h (by decide)) (fun _ => ?_)
        refine lv_aload_n hx hb d_MO_closeRun_126 rfl (lv_at hl 3 rfl) ?_
        refine lv_iload_n hx hb d_MO_closeRun_127 rfl (lv_at hl 5 rfl) ?_
        refine r_put hx hb hC hP hS i_MO t_MO t_MO_ok n_MO (44) (by decide) rfl rfl 10 (by decide) l_MO_121 rfl rfl rfl (Nat.le_of_ble_eq_true rfl) d_MO_closeRun_128 (fun H locs hP hS => ?_)
        exact e_v hx hb hr hlk hC hP hS d_MO_closeRun_131 (by rw [moOwes, decide_eq_false (Int32.not_lt.mpr c_80), decide_eq_false (Int32.not_lt.mpr c_80x), decide_eq_true (Int32.not_le.mp c_80xx)] at how; exact absurd how (by decide))
    · refine lv_iconst (v := 1) hx hb d_MO_closeRun_83 (by decide) ?_
      refine lv_istore (lv' := [(4, .int 1), (5, .int 1), (3, .int (S 44 10)), (0, .ref (gA G 44)), (1, .int bk), (2, .int mi)]) hx hb d_MO_closeRun_84 hl (by decide) rfl (fun ls hl => ?_)
      refine lv_iinc (v := 2) (lv' := [(5, .int 2), (4, .int 1), (3, .int (S 44 10)), (0, .ref (gA G 44)), (1, .int bk), (2, .int mi)]) hx hb d_MO_closeRun_86 hl (k := 1) rfl (by decide) (by decide) rfl (fun ls hl => ?_)
      refine lv_goto (tgt := 36) hx hb d_MO_closeRun_89 (by decide) ?_
      refine lv_iload hx hb d_MO_closeRun_36 (lv_at hl 0 rfl) ?_
      refine lv_iconst (v := 3) hx hb d_MO_closeRun_38 (by decide) ?_
      refine lv_icmp_ge (tgt := 92) hx hb d_MO_closeRun_39 (by decide) (fun h => absurd h (by decide)) (fun _ => ?_)
      refine lv_aload_n hx hb d_MO_closeRun_42 rfl (lv_at hl 3 rfl) ?_
      refine r_get hx hb hC hP i_MO (44) (by decide) rfl rfl 15 (by decide) l_MO_38 rfl d_MO_closeRun_43 ?_
      refine lv_iload hx hb d_MO_closeRun_46 (lv_at hl 0 rfl) ?_
      refine lv_dup2_11 hx hb d_MO_closeRun_48 rfl rfl ?_
      refine r_ild hx hb hC hP (53) (by decide) rfl 2 rfl (by decide) (by decide) d_MO_closeRun_49 ?_
      rw [show (su (su (su S 44 13 (nI q)) 53 0 ((S 53 0) - (S 52 (3 * q)))) 53 1 ((S 53 1) - (S 52 (3 * q + 1)))) 53 2 = S 53 2 from by rw [su_int _ _ _ (by decide), su_int _ _ _ (by decide), su_cell _ _ _ (by decide)]]
      refine lv_aload_n hx hb d_MO_closeRun_50 rfl (lv_at hl 3 rfl) ?_
      refine r_get hx hb hC hP i_MO (44) (by decide) rfl rfl 14 (by decide) l_MO_35 rfl d_MO_closeRun_51 ?_
      refine lv_iconst (v := 3) hx hb d_MO_closeRun_54 (by decide) ?_
      refine lv_aload_n hx hb d_MO_closeRun_55 rfl (lv_at hl 3 rfl) ?_
      refine r_get hx hb hC hP i_MO (44) (by decide) rfl rfl 13 (by decide) l_MO_111 rfl d_MO_closeRun_56 ?_
      rw [show (su (su (su S 44 13 (nI q)) 53 0 ((S 53 0) - (S 52 (3 * q)))) 53 1 ((S 53 1) - (S 52 (3 * q + 1)))) 44 13 = nI q from by rw [su_cell _ _ _ (by decide), su_cell _ _ _ (by decide), su_same]]
      refine lv_imul hx hb d_MO_closeRun_59 ?_
      refine lv_iload hx hb d_MO_closeRun_60 (lv_at hl 0 rfl) ?_
      refine lv_iadd hx hb d_MO_closeRun_62 ?_
      rw [show (3 * (nI q)) + 2 = nI (3 * q + 2) from (nI_m3 q 2)]
      refine r_ild hx hb hC hP (52) (by decide) rfl (3 * q + 2) rfl (by omega) (by decide) d_MO_closeRun_63 ?_
      rw [show (su (su (su S 44 13 (nI q)) 53 0 ((S 53 0) - (S 52 (3 * q)))) 53 1 ((S 53 1) - (S 52 (3 * q + 1)))) 52 (3 * q + 2) = S 52 (3 * q + 2) from by rw [su_cell _ _ _ (by decide), su_cell _ _ _ (by decide), su_cell _ _ _ (by decide)]]
      refine lv_isub hx hb d_MO_closeRun_64 ?_
      refine r_ist hx hb hC hP hS (53) (by decide) (fun _ => rfl) 2 rfl (by decide) (by decide) d_MO_closeRun_65 (fun H locs hP hS => ?_)
      refine lv_aload_n hx hb d_MO_closeRun_66 rfl (lv_at hl 3 rfl) ?_
      refine r_get hx hb hC hP i_MO (44) (by decide) rfl rfl 14 (by decide) l_MO_35 rfl d_MO_closeRun_67 ?_
      refine lv_iconst (v := 3) hx hb d_MO_closeRun_70 (by decide) ?_
      refine lv_aload_n hx hb d_MO_closeRun_71 rfl (lv_at hl 3 rfl) ?_
      refine r_get hx hb hC hP i_MO (44) (by decide) rfl rfl 13 (by decide) l_MO_111 rfl d_MO_closeRun_72 ?_
      rw [show (su (su (su (su S 44 13 (nI q)) 53 0 ((S 53 0) - (S 52 (3 * q)))) 53 1 ((S 53 1) - (S 52 (3 * q + 1)))) 53 2 ((S 53 2) - (S 52 (3 * q + 2)))) 44 13 = nI q from by rw [su_cell _ _ _ (by decide), su_cell _ _ _ (by decide), su_cell _ _ _ (by decide), su_same]]
      refine lv_imul hx hb d_MO_closeRun_75 ?_
      refine lv_iload hx hb d_MO_closeRun_76 (lv_at hl 0 rfl) ?_
      refine lv_iadd hx hb d_MO_closeRun_78 ?_
      rw [show (3 * (nI q)) + 2 = nI (3 * q + 2) from (nI_m3 q 2)]
      refine r_ild hx hb hC hP (52) (by decide) rfl (3 * q + 2) rfl (by omega) (by decide) d_MO_closeRun_79 ?_
      rw [show (su (su (su (su S 44 13 (nI q)) 53 0 ((S 53 0) - (S 52 (3 * q)))) 53 1 ((S 53 1) - (S 52 (3 * q + 1)))) 53 2 ((S 53 2) - (S 52 (3 * q + 2)))) 52 (3 * q + 2) = S 52 (3 * q + 2) from by rw [su_cell _ _ _ (by decide), su_cell _ _ _ (by decide), su_cell _ _ _ (by decide), su_cell _ _ _ (by decide)]]
      refine lv_if_le (tgt := 86) hx hb d_MO_closeRun_80 (by decide) (fun c_80xx => ?_) (fun c_80xx => ?_)
      · refine lv_iinc (v := 3) (lv' := [(5, .int 3), (4, .int 1), (3, .int (S 44 10)), (0, .ref (gA G 44)), (1, .int bk), (2, .int mi)]) hx hb d_MO_closeRun_86 hl (k := 0) rfl (by decide) (by decide) rfl (fun ls hl => ?_)
        refine lv_goto (tgt := 36) hx hb d_MO_closeRun_89 (by decide) ?_
        refine lv_iload hx hb d_MO_closeRun_36 (lv_at hl 0 rfl) ?_
        refine lv_iconst (v := 3) hx hb d_MO_closeRun_38 (by decide) ?_
        refine lv_icmp_ge (tgt := 92) hx hb d_MO_closeRun_39 (by decide) (fun _ => ?_) (fun h => absurd h (by decide))
        refine lv_iload hx hb d_MO_closeRun_92 (lv_at hl 1 rfl) ?_
        refine lv_if_eq (tgt := 118) hx hb d_MO_closeRun_94 (by decide) (fun h => absurd h (by decide)) (fun _ => ?_)
        refine lv_aload_n hx hb d_MO_closeRun_97 rfl (lv_at hl 3 rfl) ?_
        refine lv_iconst (v := 4) hx hb d_MO_closeRun_98 (by decide) ?_
        refine lv_aload_n hx hb d_MO_closeRun_99 rfl (lv_at hl 3 rfl) ?_
        refine r_get hx hb hC hP i_MO (44) (by decide) rfl rfl 11 (by decide) l_MO_92 rfl d_MO_closeRun_100 ?_
        rw [show (su (su (su (su S 44 13 (nI q)) 53 0 ((S 53 0) - (S 52 (3 * q)))) 53 1 ((S 53 1) - (S 52 (3 * q + 1)))) 53 2 ((S 53 2) - (S 52 (3 * q + 2)))) 44 11 = S 44 11 from by rw [su_cell _ _ _ (by decide), su_cell _ _ _ (by decide), su_cell _ _ _ (by decide), su_int _ _ _ (by decide)]]
        rw [show S 44 11 = 0 from he]
        refine lv_iconst (v := 4) hx hb d_MO_closeRun_103 (by decide) ?_
        refine lv_icmp_ne (tgt := 114) hx hb d_MO_closeRun_104 (by decide) (fun _ => ?_) (fun h => absurd h (by decide))
        refine lv_iconst (v := 0) hx hb d_MO_closeRun_114 (by decide) ?_
        refine r_v hC hS (r_runV (np := 2) (As := [.int 4, .int 0]) (rest := []) hx hb hml hC hP hS (by decide) rfl rfl (m_MO_raise l G (su (su (su (su S 44 13 (nI q)) 53 0 ((S 53 0) - (S 52 (3 * q)))) 53 1 ((S 53 1) - (S 52 (3 * q + 1)))) 53 2 ((S 53 2) - (S 52 (3 * q + 2)))) n (by omega) (by rw [su_cell _ _ _ (by decide), su_cell _ _ _ (by decide), su_cell _ _ _ (by decide), su_int _ _ _ (by decide)]; exact hn) 4 0) l_MO_124 im_MO_raise se_MO_raise in_MO c_MO_raise_in (by decide +kernel) ⟨by simp only [rmF]; omega, by simp only [rmF]; omega⟩ rfl hl.1 (Nat.le_of_ble_eq_true rfl) d_MO_closeRun_115 ⟨Nat.le_refl _, Nat.le_refl _⟩) (fun S_115 H locs hw hP hS => ?_)
        rw [hw] at hP
        refine lv_aload_n hx hb d_MO_closeRun_118 rfl (lv_at hl 3 rfl) ?_
        refine r_get hx hb hC hP i_MO (44) (by decide) rfl rfl 11 (by decide) l_MO_92 rfl d_MO_closeRun_119 ?_
        rw [show (moRaise (su (su (su (su S 44 13 (nI q)) 53 0 ((S 53 0) - (S 52 (3 * q)))) 53 1 ((S 53 1) - (S 52 (3 * q + 1)))) 53 2 ((S 53 2) - (S 52 (3 * q + 2)))) n 4 0) 44 11 = 4 from (moRaise_11 _ _ _ _)]
        refine lv_iconst (v := 4) hx hb d_MO_closeRun_122 (by decide) ?_
        refine lv_icmp_ne (tgt := 132) hx hb d_MO_closeRun_123 (by decide) (fun h => absurd h (by decide)) (fun _ => ?_)
        refine lv_aload_n hx hb d_MO_closeRun_126 rfl (lv_at hl 3 rfl) ?_
        refine lv_iload_n hx hb d_MO_closeRun_127 rfl (lv_at hl 5 rfl) ?_
        refine r_put hx hb hC hP hS i_MO t_MO t_MO_ok n_MO (44) (by decide) rfl rfl 10 (by decide) l_MO_121 rfl rfl rfl (Nat.le_of_ble_eq_true rfl) d_MO_closeRun_128 (fun H locs hP hS => ?_)
        exact e_v hx hb hr hlk hC hP hS d_MO_closeRun_131 (by rw [moOwes, decide_eq_false (Int32.not_lt.mpr c_80), decide_eq_true (Int32.not_le.mp c_80x), decide_eq_false (Int32.not_lt.mpr c_80xx)] at how; exact absurd how (by decide))
      · refine lv_iconst (v := 1) hx hb d_MO_closeRun_83 (by decide) ?_
        refine lv_istore (lv' := [(4, .int 1), (5, .int 2), (3, .int (S 44 10)), (0, .ref (gA G 44)), (1, .int bk), (2, .int mi)]) hx hb d_MO_closeRun_84 hl (by decide) rfl (fun ls hl => ?_)
        refine lv_iinc (v := 3) (lv' := [(5, .int 3), (4, .int 1), (3, .int (S 44 10)), (0, .ref (gA G 44)), (1, .int bk), (2, .int mi)]) hx hb d_MO_closeRun_86 hl (k := 1) rfl (by decide) (by decide) rfl (fun ls hl => ?_)
        refine lv_goto (tgt := 36) hx hb d_MO_closeRun_89 (by decide) ?_
        refine lv_iload hx hb d_MO_closeRun_36 (lv_at hl 0 rfl) ?_
        refine lv_iconst (v := 3) hx hb d_MO_closeRun_38 (by decide) ?_
        refine lv_icmp_ge (tgt := 92) hx hb d_MO_closeRun_39 (by decide) (fun _ => ?_) (fun h => absurd h (by decide))
        refine lv_iload hx hb d_MO_closeRun_92 (lv_at hl 1 rfl) ?_
        refine lv_if_eq (tgt := 118) hx hb d_MO_closeRun_94 (by decide) (fun h => absurd h (by decide)) (fun _ => ?_)
        refine lv_aload_n hx hb d_MO_closeRun_97 rfl (lv_at hl 3 rfl) ?_
        refine lv_iconst (v := 4) hx hb d_MO_closeRun_98 (by decide) ?_
        refine lv_aload_n hx hb d_MO_closeRun_99 rfl (lv_at hl 3 rfl) ?_
        refine r_get hx hb hC hP i_MO (44) (by decide) rfl rfl 11 (by decide) l_MO_92 rfl d_MO_closeRun_100 ?_
        rw [show (su (su (su (su S 44 13 (nI q)) 53 0 ((S 53 0) - (S 52 (3 * q)))) 53 1 ((S 53 1) - (S 52 (3 * q + 1)))) 53 2 ((S 53 2) - (S 52 (3 * q + 2)))) 44 11 = S 44 11 from by rw [su_cell _ _ _ (by decide), su_cell _ _ _ (by decide), su_cell _ _ _ (by decide), su_int _ _ _ (by decide)]]
        rw [show S 44 11 = 0 from he]
        refine lv_iconst (v := 4) hx hb d_MO_closeRun_103 (by decide) ?_
        refine lv_icmp_ne (tgt := 114) hx hb d_MO_closeRun_104 (by decide) (fun _ => ?_) (fun h => absurd h (by decide))
        refine lv_iconst (v := 0) hx hb d_MO_closeRun_114 (by decide) ?_
        refine r_v hC hS (r_runV (np := 2) (As := [.int 4, .int 0]) (rest := []) hx hb hml hC hP hS (by decide) rfl rfl (m_MO_raise l G (su (su (su (su S 44 13 (nI q)) 53 0 ((S 53 0) - (S 52 (3 * q)))) 53 1 ((S 53 1) - (S 52 (3 * q + 1)))) 53 2 ((S 53 2) - (S 52 (3 * q + 2)))) n (by omega) (by rw [su_cell _ _ _ (by decide), su_cell _ _ _ (by decide), su_cell _ _ _ (by decide), su_int _ _ _ (by decide)]; exact hn) 4 0) l_MO_124 im_MO_raise se_MO_raise in_MO c_MO_raise_in (by decide +kernel) ⟨by simp only [rmF]; omega, by simp only [rmF]; omega⟩ rfl hl.1 (Nat.le_of_ble_eq_true rfl) d_MO_closeRun_115 ⟨Nat.le_refl _, Nat.le_refl _⟩) (fun S_115 H locs hw hP hS => ?_)
        rw [hw] at hP
        refine lv_aload_n hx hb d_MO_closeRun_118 rfl (lv_at hl 3 rfl) ?_
        refine r_get hx hb hC hP i_MO (44) (by decide) rfl rfl 11 (by decide) l_MO_92 rfl d_MO_closeRun_119 ?_
        rw [show (moRaise (su (su (su (su S 44 13 (nI q)) 53 0 ((S 53 0) - (S 52 (3 * q)))) 53 1 ((S 53 1) - (S 52 (3 * q + 1)))) 53 2 ((S 53 2) - (S 52 (3 * q + 2)))) n 4 0) 44 11 = 4 from (moRaise_11 _ _ _ _)]
        refine lv_iconst (v := 4) hx hb d_MO_closeRun_122 (by decide) ?_
        refine lv_icmp_ne (tgt := 132) hx hb d_MO_closeRun_123 (by decide) (fun h => absurd h (by decide)) (fun _ => ?_)
        refine lv_aload_n hx hb d_MO_closeRun_126 rfl (lv_at hl 3 rfl) ?_
        refine lv_iload_n hx hb d_MO_closeRun_127 rfl (lv_at hl 5 rfl) ?_
        refine r_put hx hb hC hP hS i_MO t_MO t_MO_ok n_MO (44) (by decide) rfl rfl 10 (by decide) l_MO_121 rfl rfl rfl (Nat.le_of_ble_eq_true rfl) d_MO_closeRun_128 (fun H locs hP hS => ?_)
        exact e_v hx hb hr hlk hC hP hS d_MO_closeRun_131 (by rw [moOwes, decide_eq_false (Int32.not_lt.mpr c_80), decide_eq_true (Int32.not_le.mp c_80x), decide_eq_true (Int32.not_le.mp c_80xx)] at how; exact absurd how (by decide))
  · refine lv_iconst (v := 1) hx hb d_MO_closeRun_83 (by decide) ?_
    refine lv_istore (lv' := [(4, .int 1), (5, .int 0), (3, .int (S 44 10)), (0, .ref (gA G 44)), (1, .int bk), (2, .int mi)]) hx hb d_MO_closeRun_84 hl (by decide) rfl (fun ls hl => ?_)
    refine lv_iinc (v := 1) (lv' := [(5, .int 1), (4, .int 1), (3, .int (S 44 10)), (0, .ref (gA G 44)), (1, .int bk), (2, .int mi)]) hx hb d_MO_closeRun_86 hl (k := 1) rfl (by decide) (by decide) rfl (fun ls hl => ?_)
    refine lv_goto (tgt := 36) hx hb d_MO_closeRun_89 (by decide) ?_
    refine lv_iload hx hb d_MO_closeRun_36 (lv_at hl 0 rfl) ?_
    refine lv_iconst (v := 3) hx hb d_MO_closeRun_38 (by decide) ?_
    refine lv_icmp_ge (tgt := 92) hx hb d_MO_closeRun_39 (by decide) (fun h => absurd h (by decide)) (fun _ => ?_)
    refine lv_aload_n hx hb d_MO_closeRun_42 rfl (lv_at hl 3 rfl) ?_
    refine r_get hx hb hC hP i_MO (44) (by decide) rfl rfl 15 (by decide) l_MO_38 rfl d_MO_closeRun_43 ?_
    refine lv_iload hx hb d_MO_closeRun_46 (lv_at hl 0 rfl) ?_
    refine lv_dup2_11 hx hb d_MO_closeRun_48 rfl rfl ?_
    refine r_ild hx hb hC hP (53) (by decide) rfl 1 rfl (by decide) (by decide) d_MO_closeRun_49 ?_
    rw [show (su (su S 44 13 (nI q)) 53 0 ((S 53 0) - (S 52 (3 * q)))) 53 1 = S 53 1 from by rw [su_int _ _ _ (by decide), su_cell _ _ _ (by decide)]]
    refine lv_aload_n hx hb d_MO_closeRun_50 rfl (lv_at hl 3 rfl) ?_
    refine r_get hx hb hC hP i_MO (44) (by decide) rfl rfl 14 (by decide) l_MO_35 rfl d_MO_closeRun_51 ?_
    refine lv_iconst (v := 3) hx hb d_MO_closeRun_54 (by decide) ?_
    refine lv_aload_n hx hb d_MO_closeRun_55 rfl (lv_at hl 3 rfl) ?_
    refine r_get hx hb hC hP i_MO (44) (by decide) rfl rfl 13 (by decide) l_MO_111 rfl d_MO_closeRun_56 ?_
    rw [show (su (su S 44 13 (nI q)) 53 0 ((S 53 0) - (S 52 (3 * q)))) 44 13 = nI q from by rw [su_cell _ _ _ (by decide), su_same]]
    refine lv_imul hx hb d_MO_closeRun_59 ?_
    refine lv_iload hx hb d_MO_closeRun_60 (lv_at hl 0 rfl) ?_
    refine lv_iadd hx hb d_MO_closeRun_62 ?_
    rw [show (3 * (nI q)) + 1 = nI (3 * q + 1) from (nI_m3 q 1)]
    refine r_ild hx hb hC hP (52) (by decide) rfl (3 * q + 1) rfl (by omega) (by decide) d_MO_closeRun_63 ?_
    rw [show (su (su S 44 13 (nI q)) 53 0 ((S 53 0) - (S 52 (3 * q)))) 52 (3 * q + 1) = S 52 (3 * q + 1) from by rw [su_cell _ _ _ (by decide), su_cell _ _ _ (by decide)]]
    refine lv_isub hx hb d_MO_closeRun_64 ?_
    refine r_ist hx hb hC hP hS (53) (by decide) (fun _ => rfl) 1 rfl (by decide) (by decide) d_MO_closeRun_65 (fun H locs hP hS => ?_)
    refine lv_aload_n hx hb d_MO_closeRun_66 rfl (lv_at hl 3 rfl) ?_
    refine r_get hx hb hC hP i_MO (44) (by decide) rfl rfl 14 (by decide) l_MO_35 rfl d_MO_closeRun_67 ?_
    refine lv_iconst (v := 3) hx hb d_MO_closeRun_70 (by decide) ?_
    refine lv_aload_n hx hb d_MO_closeRun_71 rfl (lv_at hl 3 rfl) ?_
    refine r_get hx hb hC hP i_MO (44) (by decide) rfl rfl 13 (by decide) l_MO_111 rfl d_MO_closeRun_72 ?_
    rw [show (su (su (su S 44 13 (nI q)) 53 0 ((S 53 0) - (S 52 (3 * q)))) 53 1 ((S 53 1) - (S 52 (3 * q + 1)))) 44 13 = nI q from by rw [su_cell _ _ _ (by decide), su_cell _ _ _ (by decide), su_same]]
    refine lv_imul hx hb d_MO_closeRun_75 ?_
    refine lv_iload hx hb d_MO_closeRun_76 (lv_at hl 0 rfl) ?_
    refine lv_iadd hx hb d_MO_closeRun_78 ?_
    rw [show (3 * (nI q)) + 1 = nI (3 * q + 1) from (nI_m3 q 1)]
    refine r_ild hx hb hC hP (52) (by decide) rfl (3 * q + 1) rfl (by omega) (by decide) d_MO_closeRun_79 ?_
    rw [show (su (su (su S 44 13 (nI q)) 53 0 ((S 53 0) - (S 52 (3 * q)))) 53 1 ((S 53 1) - (S 52 (3 * q + 1)))) 52 (3 * q + 1) = S 52 (3 * q + 1) from by rw [su_cell _ _ _ (by decide), su_cell _ _ _ (by decide), su_cell _ _ _ (by decide)]]
    refine lv_if_le (tgt := 86) hx hb d_MO_closeRun_80 (by decide) (fun c_80x => ?_) (fun c_80x => ?_)
    · refine lv_iinc (v := 2) (lv' := [(5, .int 2), (4, .int 1), (3, .int (S 44 10)), (0, .ref (gA G 44)), (1, .int bk), (2, .int mi)]) hx hb d_MO_closeRun_86 hl (k := 0) rfl (by decide) (by decide) rfl (fun ls hl => ?_)
      refine lv_goto (tgt := 36) hx hb d_MO_closeRun_89 (by decide) ?_
      refine lv_iload hx hb d_MO_closeRun_36 (lv_at hl 0 rfl) ?_
      refine lv_iconst (v := 3) hx hb d_MO_closeRun_38 (by decide) ?_
      refine lv_icmp_ge (tgt := 92) hx hb d_MO_closeRun_39 (by decide) (fun h => absurd h (by decide)) (fun _ => ?_)
      refine lv_aload_n hx hb d_MO_closeRun_42 rfl (lv_at hl 3 rfl) ?_
      refine r_get hx hb hC hP i_MO (44) (by decide) rfl rfl 15 (by decide) l_MO_38 rfl d_MO_closeRun_43 ?_
      refine lv_iload hx hb d_MO_closeRun_46 (lv_at hl 0 rfl) ?_
      refine lv_dup2_11 hx hb d_MO_closeRun_48 rfl rfl ?_
      refine r_ild hx hb hC hP (53) (by decide) rfl 2 rfl (by decide) (by decide) d_MO_closeRun_49 ?_
      rw [show (su (su (su S 44 13 (nI q)) 53 0 ((S 53 0) - (S 52 (3 * q)))) 53 1 ((S 53 1) - (S 52 (3 * q + 1)))) 53 2 = S 53 2 from by rw [su_int _ _ _ (by decide), su_int _ _ _ (by decide), su_cell _ _ _ (by decide)]]
      refine lv_aload_n hx hb d_MO_closeRun_50 rfl (lv_at hl 3 rfl) ?_
      refine r_get hx hb hC hP i_MO (44) (by decide) rfl rfl 14 (by decide) l_MO_35 rfl d_MO_closeRun_51 ?_
      refine lv_iconst (v := 3) hx hb d_MO_closeRun_54 (by decide) ?_
      refine lv_aload_n hx hb d_MO_closeRun_55 rfl (lv_at hl 3 rfl) ?_
      refine r_get hx hb hC hP i_MO (44) (by decide) rfl rfl 13 (by decide) l_MO_111 rfl d_MO_closeRun_56 ?_
      rw [show (su (su (su S 44 13 (nI q)) 53 0 ((S 53 0) - (S 52 (3 * q)))) 53 1 ((S 53 1) - (S 52 (3 * q + 1)))) 44 13 = nI q from by rw [su_cell _ _ _ (by decide), su_cell _ _ _ (by decide), su_same]]
      refine lv_imul hx hb d_MO_closeRun_59 ?_
      refine lv_iload hx hb d_MO_closeRun_60 (lv_at hl 0 rfl) ?_
      refine lv_iadd hx hb d_MO_closeRun_62 ?_
      rw [show (3 * (nI q)) + 2 = nI (3 * q + 2) from (nI_m3 q 2)]
      refine r_ild hx hb hC hP (52) (by decide) rfl (3 * q + 2) rfl (by omega) (by decide) d_MO_closeRun_63 ?_
      rw [show (su (su (su S 44 13 (nI q)) 53 0 ((S 53 0) - (S 52 (3 * q)))) 53 1 ((S 53 1) - (S 52 (3 * q + 1)))) 52 (3 * q + 2) = S 52 (3 * q + 2) from by rw [su_cell _ _ _ (by decide), su_cell _ _ _ (by decide), su_cell _ _ _ (by decide)]]
      refine lv_isub hx hb d_MO_closeRun_64 ?_
      refine r_ist hx hb hC hP hS (53) (by decide) (fun _ => rfl) 2 rfl (by decide) (by decide) d_MO_closeRun_65 (fun H locs hP hS => ?_)
      refine lv_aload_n hx hb d_MO_closeRun_66 rfl (lv_at hl 3 rfl) ?_
      refine r_get hx hb hC hP i_MO (44) (by decide) rfl rfl 14 (by decide) l_MO_35 rfl d_MO_closeRun_67 ?_
      refine lv_iconst (v := 3) hx hb d_MO_closeRun_70 (by decide) ?_
      refine lv_aload_n hx hb d_MO_closeRun_71 rfl (lv_at hl 3 rfl) ?_
      refine r_get hx hb hC hP i_MO (44) (by decide) rfl rfl 13 (by decide) l_MO_111 rfl d_MO_closeRun_72 ?_
      rw [show (su (su (su (su S 44 13 (nI q)) 53 0 ((S 53 0) - (S 52 (3 * q)))) 53 1 ((S 53 1) - (S 52 (3 * q + 1)))) 53 2 ((S 53 2) - (S 52 (3 * q + 2)))) 44 13 = nI q from by rw [su_cell _ _ _ (by decide), su_cell _ _ _ (by decide), su_cell _ _ _ (by decide), su_same]]
      refine lv_imul hx hb d_MO_closeRun_75 ?_
      refine lv_iload hx hb d_MO_closeRun_76 (lv_at hl 0 rfl) ?_
      refine lv_iadd hx hb d_MO_closeRun_78 ?_
      rw [show (3 * (nI q)) + 2 = nI (3 * q + 2) from (nI_m3 q 2)]
      refine r_ild hx hb hC hP (52) (by decide) rfl (3 * q + 2) rfl (by omega) (by decide) d_MO_closeRun_79 ?_
      rw [show (su (su (su (su S 44 13 (nI q)) 53 0 ((S 53 0) - (S 52 (3 * q)))) 53 1 ((S 53 1) - (S 52 (3 * q + 1)))) 53 2 ((S 53 2) - (S 52 (3 * q + 2)))) 52 (3 * q + 2) = S 52 (3 * q + 2) from by rw [su_cell _ _ _ (by decide), su_cell _ _ _ (by decide), su_cell _ _ _ (by decide), su_cell _ _ _ (by decide)]]
      refine lv_if_le (tgt := 86) hx hb d_MO_closeRun_80 (by decide) (fun c_80xx => ?_) (fun c_80xx => ?_)
      · refine lv_iinc (v := 3) (lv' := [(5, .int 3), (4, .int 1), (3, .int (S 44 10)), (0, .ref (gA G 44)), (1, .int bk), (2, .int mi)]) hx hb d_MO_closeRun_86 hl (k := 0) rfl (by decide) (by decide) rfl (fun ls hl => ?_)
        refine lv_goto (tgt := 36) hx hb d_MO_closeRun_89 (by decide) ?_
        refine lv_iload hx hb d_MO_closeRun_36 (lv_at hl 0 rfl) ?_
        refine lv_iconst (v := 3) hx hb d_MO_closeRun_38 (by decide) ?_
        refine lv_icmp_ge (tgt := 92) hx hb d_MO_closeRun_39 (by decide) (fun _ => ?_) (fun h => absurd h (by decide))
        refine lv_iload hx hb d_MO_closeRun_92 (lv_at hl 1 rfl) ?_
        refine lv_if_eq (tgt := 118) hx hb d_MO_closeRun_94 (by decide) (fun h => absurd h (by decide)) (fun _ => ?_)
        refine lv_aload_n hx hb d_MO_closeRun_97 rfl (lv_at hl 3 rfl) ?_
        refine lv_iconst (v := 4) hx hb d_MO_closeRun_98 (by decide) ?_
        refine lv_aload_n hx hb d_MO_closeRun_99 rfl (lv_at hl 3 rfl) ?_
        refine r_get hx hb hC hP i_MO (44) (by decide) rfl rfl 11 (by decide) l_MO_92 rfl d_MO_closeRun_100 ?_
        rw [show (su (su (su (su S 44 13 (nI q)) 53 0 ((S 53 0) - (S 52 (3 * q)))) 53 1 ((S 53 1) - (S 52 (3 * q + 1)))) 53 2 ((S 53 2) - (S 52 (3 * q + 2)))) 44 11 = S 44 11 from by rw [su_cell _ _ _ (by decide), su_cell _ _ _ (by decide), su_cell _ _ _ (by decide), su_int _ _ _ (by decide)]]
        rw [show S 44 11 = 0 from he]
        refine lv_iconst (v := 4) hx hb d_MO_closeRun_103 (by decide) ?_
        refine lv_icmp_ne (tgt := 114) hx hb d_MO_closeRun_104 (by decide) (fun _ => ?_) (fun h => absurd h (by decide))
        refine lv_iconst (v := 0) hx hb d_MO_closeRun_114 (by decide) ?_
        refine r_v hC hS (r_runV (np := 2) (As := [.int 4, .int 0]) (rest := []) hx hb hml hC hP hS (by decide) rfl rfl (m_MO_raise l G (su (su (su (su S 44 13 (nI q)) 53 0 ((S 53 0) - (S 52 (3 * q)))) 53 1 ((S 53 1) - (S 52 (3 * q + 1)))) 53 2 ((S 53 2) - (S 52 (3 * q + 2)))) n (by omega) (by rw [su_cell _ _ _ (by decide), su_cell _ _ _ (by decide), su_cell _ _ _ (by decide), su_int _ _ _ (by decide)]; exact hn) 4 0) l_MO_124 im_MO_raise se_MO_raise in_MO c_MO_raise_in (by decide +kernel) ⟨by simp only [rmF]; omega, by simp only [rmF]; omega⟩ rfl hl.1 (Nat.le_of_ble_eq_true rfl) d_MO_closeRun_115 ⟨Nat.le_refl _, Nat.le_refl _⟩) (fun S_115 H locs hw hP hS => ?_)
        rw [hw] at hP
        refine lv_aload_n hx hb d_MO_closeRun_118 rfl (lv_at hl 3 rfl) ?_
        refine r_get hx hb hC hP i_MO (44) (by decide) rfl rfl 11 (by decide) l_MO_92 rfl d_MO_closeRun_119 ?_
        rw [show (moRaise (su (su (su (su S 44 13 (nI q)) 53 0 ((S 53 0) - (S 52 (3 * q)))) 53 1 ((S 53 1) - (S 52 (3 * q + 1)))) 53 2 ((S 53 2) - (S 52 (3 * q + 2)))) n 4 0) 44 11 = 4 from (moRaise_11 _ _ _ _)]
        refine lv_iconst (v := 4) hx hb d_MO_closeRun_122 (by decide) ?_
        refine lv_icmp_ne (tgt := 132) hx hb d_MO_closeRun_123 (by decide) (fun h => absurd h (by decide)) (fun _ => ?_)
        refine lv_aload_n hx hb d_MO_closeRun_126 rfl (lv_at hl 3 rfl) ?_
        refine lv_iload_n hx hb d_MO_closeRun_127 rfl (lv_at hl 5 rfl) ?_
        refine r_put hx hb hC hP hS i_MO t_MO t_MO_ok n_MO (44) (by decide) rfl rfl 10 (by decide) l_MO_121 rfl rfl rfl (Nat.le_of_ble_eq_true rfl) d_MO_closeRun_128 (fun H locs hP hS => ?_)
        exact e_v hx hb hr hlk hC hP hS d_MO_closeRun_131 (by rw [moOwes, decide_eq_true (Int32.not_le.mp c_80), decide_eq_false (Int32.not_lt.mpr c_80x), decide_eq_false (Int32.not_lt.mpr c_80xx)] at how; exact absurd how (by decide))
      · refine lv_iconst (v := 1) hx hb d_MO_closeRun_83 (by decide) ?_
        refine lv_istore (lv' := [(4, .int 1), (5, .int 2), (3, .int (S 44 10)), (0, .ref (gA G 44)), (1, .int bk), (2, .int mi)]) hx hb d_MO_closeRun_84 hl (by decide) rfl (fun ls hl => ?_)
        refine lv_iinc (v := 3) (lv' := [(5, .int 3), (4, .int 1), (3, .int (S 44 10)), (0, .ref (gA G 44)), (1, .int bk), (2, .int mi)]) hx hb d_MO_closeRun_86 hl (k := 1) rfl (by decide) (by decide) rfl (fun ls hl => ?_)
        refine lv_goto (tgt := 36) hx hb d_MO_closeRun_89 (by decide) ?_
        refine lv_iload hx hb d_MO_closeRun_36 (lv_at hl 0 rfl) ?_
        refine lv_iconst (v := 3) hx hb d_MO_closeRun_38 (by decide) ?_
        refine lv_icmp_ge (tgt := 92) hx hb d_MO_closeRun_39 (by decide) (fun _ => ?_) (fun h => absurd h (by decide))
        refine lv_iload hx hb d_MO_closeRun_92 (lv_at hl 1 rfl) ?_
        refine lv_if_eq (tgt := 118) hx hb d_MO_closeRun_94 (by decide) (fun h => absurd h (by decide)) (fun _ => ?_)
        refine lv_aload_n hx hb d_MO_closeRun_97 rfl (lv_at hl 3 rfl) ?_
        refine lv_iconst (v := 4) hx hb d_MO_closeRun_98 (by decide) ?_
        refine lv_aload_n hx hb d_MO_closeRun_99 rfl (lv_at hl 3 rfl) ?_
        refine r_get hx hb hC hP i_MO (44) (by decide) rfl rfl 11 (by decide) l_MO_92 rfl d_MO_closeRun_100 ?_
        rw [show (su (su (su (su S 44 13 (nI q)) 53 0 ((S 53 0) - (S 52 (3 * q)))) 53 1 ((S 53 1) - (S 52 (3 * q + 1)))) 53 2 ((S 53 2) - (S 52 (3 * q + 2)))) 44 11 = S 44 11 from by rw [su_cell _ _ _ (by decide), su_cell _ _ _ (by decide), su_cell _ _ _ (by decide), su_int _ _ _ (by decide)]]
        rw [show S 44 11 = 0 from he]
        refine lv_iconst (v := 4) hx hb d_MO_closeRun_103 (by decide) ?_
        refine lv_icmp_ne (tgt := 114) hx hb d_MO_closeRun_104 (by decide) (fun _ => ?_) (fun h => absurd h (by decide))
        refine lv_iconst (v := 0) hx hb d_MO_closeRun_114 (by decide) ?_
        refine r_v hC hS (r_runV (np := 2) (As := [.int 4, .int 0]) (rest := []) hx hb hml hC hP hS (by decide) rfl rfl (m_MO_raise l G (su (su (su (su S 44 13 (nI q)) 53 0 ((S 53 0) - (S 52 (3 * q)))) 53 1 ((S 53 1) - (S 52 (3 * q + 1)))) 53 2 ((S 53 2) - (S 52 (3 * q + 2)))) n (by omega) (by rw [su_cell _ _ _ (by decide), su_cell _ _ _ (by decide), su_cell _ _ _ (by decide), su_int _ _ _ (by decide)]; exact hn) 4 0) l_MO_124 im_MO_raise se_MO_raise in_MO c_MO_raise_in (by decide +kernel) ⟨by simp only [rmF]; omega, by simp only [rmF]; omega⟩ rfl hl.1 (Nat.le_of_ble_eq_true rfl) d_MO_closeRun_115 ⟨Nat.le_refl _, Nat.le_refl _⟩) (fun S_115 H locs hw hP hS => ?_)
        rw [hw] at hP
        refine lv_aload_n hx hb d_MO_closeRun_118 rfl (lv_at hl 3 rfl) ?_
        refine r_get hx hb hC hP i_MO (44) (by decide) rfl rfl 11 (by decide) l_MO_92 rfl d_MO_closeRun_119 ?_
        rw [show (moRaise (su (su (su (su S 44 13 (nI q)) 53 0 ((S 53 0) - (S 52 (3 * q)))) 53 1 ((S 53 1) - (S 52 (3 * q + 1)))) 53 2 ((S 53 2) - (S 52 (3 * q + 2)))) n 4 0) 44 11 = 4 from (moRaise_11 _ _ _ _)]
        refine lv_iconst (v := 4) hx hb d_MO_closeRun_122 (by decide) ?_
        refine lv_icmp_ne (tgt := 132) hx hb d_MO_closeRun_123 (by decide) (fun h => absurd h (by decide)) (fun _ => ?_)
        refine lv_aload_n hx hb d_MO_closeRun_126 rfl (lv_at hl 3 rfl) ?_
        refine lv_iload_n hx hb d_MO_closeRun_127 rfl (lv_at hl 5 rfl) ?_
        refine r_put hx hb hC hP hS i_MO t_MO t_MO_ok n_MO (44) (by decide) rfl rfl 10 (by decide) l_MO_121 rfl rfl rfl (Nat.le_of_ble_eq_true rfl) d_MO_closeRun_128 (fun H locs hP hS => ?_)
        exact e_v hx hb hr hlk hC hP hS d_MO_closeRun_131 (by rw [moOwes, decide_eq_true (Int32.not_le.mp c_80), decide_eq_false (Int32.not_lt.mpr c_80x), decide_eq_true (Int32.not_le.mp c_80xx)] at how; exact absurd how (by decide))
    · refine lv_iconst (v := 1) hx hb d_MO_closeRun_83 (by decide) ?_
      refine lv_istore (lv' := [(4, .int 1), (5, .int 1), (3, .int (S 44 10)), (0, .ref (gA G 44)), (1, .int bk), (2, .int mi)]) hx hb d_MO_closeRun_84 hl (by decide) rfl (fun ls hl => ?_)
      refine lv_iinc (v := 2) (lv' := [(5, .int 2), (4, .int 1), (3, .int (S 44 10)), (0, .ref (gA G 44)), (1, .int bk), (2, .int mi)]) hx hb d_MO_closeRun_86 hl (k := 1) rfl (by decide) (by decide) rfl (fun ls hl => ?_)
      refine lv_goto (tgt := 36) hx hb d_MO_closeRun_89 (by decide) ?_
      refine lv_iload hx hb d_MO_closeRun_36 (lv_at hl 0 rfl) ?_
      refine lv_iconst (v := 3) hx hb d_MO_closeRun_38 (by decide) ?_
      refine lv_icmp_ge (tgt := 92) hx hb d_MO_closeRun_39 (by decide) (fun h => absurd h (by decide)) (fun _ => ?_)
      refine lv_aload_n hx hb d_MO_closeRun_42 rfl (lv_at hl 3 rfl) ?_
      refine r_get hx hb hC hP i_MO (44) (by decide) rfl rfl 15 (by decide) l_MO_38 rfl d_MO_closeRun_43 ?_
      refine lv_iload hx hb d_MO_closeRun_46 (lv_at hl 0 rfl) ?_
      refine lv_dup2_11 hx hb d_MO_closeRun_48 rfl rfl ?_
      refine r_ild hx hb hC hP (53) (by decide) rfl 2 rfl (by decide) (by decide) d_MO_closeRun_49 ?_
      rw [show (su (su (su S 44 13 (nI q)) 53 0 ((S 53 0) - (S 52 (3 * q)))) 53 1 ((S 53 1) - (S 52 (3 * q + 1)))) 53 2 = S 53 2 from by rw [su_int _ _ _ (by decide), su_int _ _ _ (by decide), su_cell _ _ _ (by decide)]]
      refine lv_aload_n hx hb d_MO_closeRun_50 rfl (lv_at hl 3 rfl) ?_
      refine r_get hx hb hC hP i_MO (44) (by decide) rfl rfl 14 (by decide) l_MO_35 rfl d_MO_closeRun_51 ?_
      refine lv_iconst (v := 3) hx hb d_MO_closeRun_54 (by decide) ?_
      refine lv_aload_n hx hb d_MO_closeRun_55 rfl (lv_at hl 3 rfl) ?_
      refine r_get hx hb hC hP i_MO (44) (by decide) rfl rfl 13 (by decide) l_MO_111 rfl d_MO_closeRun_56 ?_
      rw [show (su (su (su S 44 13 (nI q)) 53 0 ((S 53 0) - (S 52 (3 * q)))) 53 1 ((S 53 1) - (S 52 (3 * q + 1)))) 44 13 = nI q from by rw [su_cell _ _ _ (by decide), su_cell _ _ _ (by decide), su_same]]
      refine lv_imul hx hb d_MO_closeRun_59 ?_
      refine lv_iload hx hb d_MO_closeRun_60 (lv_at hl 0 rfl) ?_
      refine lv_iadd hx hb d_MO_closeRun_62 ?_
      rw [show (3 * (nI q)) + 2 = nI (3 * q + 2) from (nI_m3 q 2)]
      refine r_ild hx hb hC hP (52) (by decide) rfl (3 * q + 2) rfl (by omega) (by decide) d_MO_closeRun_63 ?_
      rw [show (su (su (su S 44 13 (nI q)) 53 0 ((S 53 0) - (S 52 (3 * q)))) 53 1 ((S 53 1) - (S 52 (3 * q + 1)))) 52 (3 * q + 2) = S 52 (3 * q + 2) from by rw [su_cell _ _ _ (by decide), su_cell _ _ _ (by decide), su_cell _ _ _ (by decide)]]
      refine lv_isub hx hb d_MO_closeRun_64 ?_
      refine r_ist hx hb hC hP hS (53) (by decide) (fun _ => rfl) 2 rfl (by decide) (by decide) d_MO_closeRun_65 (fun H locs hP hS => ?_)
      refine lv_aload_n hx hb d_MO_closeRun_66 rfl (lv_at hl 3 rfl) ?_
      refine r_get hx hb hC hP i_MO (44) (by decide) rfl rfl 14 (by decide) l_MO_35 rfl d_MO_closeRun_67 ?_
      refine lv_iconst (v := 3) hx hb d_MO_closeRun_70 (by decide) ?_
      refine lv_aload_n hx hb d_MO_closeRun_71 rfl (lv_at hl 3 rfl) ?_
      refine r_get hx hb hC hP i_MO (44) (by decide) rfl rfl 13 (by decide) l_MO_111 rfl d_MO_closeRun_72 ?_
      rw [show (su (su (su (su S 44 13 (nI q)) 53 0 ((S 53 0) - (S 52 (3 * q)))) 53 1 ((S 53 1) - (S 52 (3 * q + 1)))) 53 2 ((S 53 2) - (S 52 (3 * q + 2)))) 44 13 = nI q from by rw [su_cell _ _ _ (by decide), su_cell _ _ _ (by decide), su_cell _ _ _ (by decide), su_same]]
      refine lv_imul hx hb d_MO_closeRun_75 ?_
      refine lv_iload hx hb d_MO_closeRun_76 (lv_at hl 0 rfl) ?_
      refine lv_iadd hx hb d_MO_closeRun_78 ?_
      rw [show (3 * (nI q)) + 2 = nI (3 * q + 2) from (nI_m3 q 2)]
      refine r_ild hx hb hC hP (52) (by decide) rfl (3 * q + 2) rfl (by omega) (by decide) d_MO_closeRun_79 ?_
      rw [show (su (su (su (su S 44 13 (nI q)) 53 0 ((S 53 0) - (S 52 (3 * q)))) 53 1 ((S 53 1) - (S 52 (3 * q + 1)))) 53 2 ((S 53 2) - (S 52 (3 * q + 2)))) 52 (3 * q + 2) = S 52 (3 * q + 2) from by rw [su_cell _ _ _ (by decide), su_cell _ _ _ (by decide), su_cell _ _ _ (by decide), su_cell _ _ _ (by decide)]]
      refine lv_if_le (tgt := 86) hx hb d_MO_closeRun_80 (by decide) (fun c_80xx => ?_) (fun c_80xx => ?_)
      · refine lv_iinc (v := 3) (lv' := [(5, .int 3), (4, .int 1), (3, .int (S 44 10)), (0, .ref (gA G 44)), (1, .int bk), (2, .int mi)]) hx hb d_MO_closeRun_86 hl (k := 0) rfl (by decide) (by decide) rfl (fun ls hl => ?_)
        refine lv_goto (tgt := 36) hx hb d_MO_closeRun_89 (by decide) ?_
        refine lv_iload hx hb d_MO_closeRun_36 (lv_at hl 0 rfl) ?_
        refine lv_iconst (v := 3) hx hb d_MO_closeRun_38 (by decide) ?_
        refine lv_icmp_ge (tgt := 92) hx hb d_MO_closeRun_39 (by decide) (fun _ => ?_) (fun h => absurd h (by decide))
        refine lv_iload hx hb d_MO_closeRun_92 (lv_at hl 1 rfl) ?_
        refine lv_if_eq (tgt := 118) hx hb d_MO_closeRun_94 (by decide) (fun h => absurd h (by decide)) (fun _ => ?_)
        refine lv_aload_n hx hb d_MO_closeRun_97 rfl (lv_at hl 3 rfl) ?_
        refine lv_iconst (v := 4) hx hb d_MO_closeRun_98 (by decide) ?_
        refine lv_aload_n hx hb d_MO_closeRun_99 rfl (lv_at hl 3 rfl) ?_
        refine r_get hx hb hC hP i_MO (44) (by decide) rfl rfl 11 (by decide) l_MO_92 rfl d_MO_closeRun_100 ?_
        rw [show (su (su (su (su S 44 13 (nI q)) 53 0 ((S 53 0) - (S 52 (3 * q)))) 53 1 ((S 53 1) - (S 52 (3 * q + 1)))) 53 2 ((S 53 2) - (S 52 (3 * q + 2)))) 44 11 = S 44 11 from by rw [su_cell _ _ _ (by decide), su_cell _ _ _ (by decide), su_cell _ _ _ (by decide), su_int _ _ _ (by decide)]]
        rw [show S 44 11 = 0 from he]
        refine lv_iconst (v := 4) hx hb d_MO_closeRun_103 (by decide) ?_
        refine lv_icmp_ne (tgt := 114) hx hb d_MO_closeRun_104 (by decide) (fun _ => ?_) (fun h => absurd h (by decide))
        refine lv_iconst (v := 0) hx hb d_MO_closeRun_114 (by decide) ?_
        refine r_v hC hS (r_runV (np := 2) (As := [.int 4, .int 0]) (rest := []) hx hb hml hC hP hS (by decide) rfl rfl (m_MO_raise l G (su (su (su (su S 44 13 (nI q)) 53 0 ((S 53 0) - (S 52 (3 * q)))) 53 1 ((S 53 1) - (S 52 (3 * q + 1)))) 53 2 ((S 53 2) - (S 52 (3 * q + 2)))) n (by omega) (by rw [su_cell _ _ _ (by decide), su_cell _ _ _ (by decide), su_cell _ _ _ (by decide), su_int _ _ _ (by decide)]; exact hn) 4 0) l_MO_124 im_MO_raise se_MO_raise in_MO c_MO_raise_in (by decide +kernel) ⟨by simp only [rmF]; omega, by simp only [rmF]; omega⟩ rfl hl.1 (Nat.le_of_ble_eq_true rfl) d_MO_closeRun_115 ⟨Nat.le_refl _, Nat.le_refl _⟩) (fun S_115 H locs hw hP hS => ?_)
        rw [hw] at hP
        refine lv_aload_n hx hb d_MO_closeRun_118 rfl (lv_at hl 3 rfl) ?_
        refine r_get hx hb hC hP i_MO (44) (by decide) rfl rfl 11 (by decide) l_MO_92 rfl d_MO_closeRun_119 ?_
        rw [show (moRaise (su (su (su (su S 44 13 (nI q)) 53 0 ((S 53 0) - (S 52 (3 * q)))) 53 1 ((S 53 1) - (S 52 (3 * q + 1)))) 53 2 ((S 53 2) - (S 52 (3 * q + 2)))) n 4 0) 44 11 = 4 from (moRaise_11 _ _ _ _)]
        refine lv_iconst (v := 4) hx hb d_MO_closeRun_122 (by decide) ?_
        refine lv_icmp_ne (tgt := 132) hx hb d_MO_closeRun_123 (by decide) (fun h => absurd h (by decide)) (fun _ => ?_)
        refine lv_aload_n hx hb d_MO_closeRun_126 rfl (lv_at hl 3 rfl) ?_
        refine lv_iload_n hx hb d_MO_closeRun_127 rfl (lv_at hl 5 rfl) ?_
        refine r_put hx hb hC hP hS i_MO t_MO t_MO_ok n_MO (44) (by decide) rfl rfl 10 (by decide) l_MO_121 rfl rfl rfl (Nat.le_of_ble_eq_true rfl) d_MO_closeRun_128 (fun H locs hP hS => ?_)
        exact e_v hx hb hr hlk hC hP hS d_MO_closeRun_131 (by rw [moOwes, decide_eq_true (Int32.not_le.mp c_80), decide_eq_true (Int32.not_le.mp c_80x), decide_eq_false (Int32.not_lt.mpr c_80xx)] at how; exact absurd how (by decide))
      · refine lv_iconst (v := 1) hx hb d_MO_closeRun_83 (by decide) ?_
        refine lv_istore (lv' := [(4, .int 1), (5, .int 2), (3, .int (S 44 10)), (0, .ref (gA G 44)), (1, .int bk), (2, .int mi)]) hx hb d_MO_closeRun_84 hl (by decide) rfl (fun ls hl => ?_)
        refine lv_iinc (v := 3) (lv' := [(5, .int 3), (4, .int 1), (3, .int (S 44 10)), (0, .ref (gA G 44)), (1, .int bk), (2, .int mi)]) hx hb d_MO_closeRun_86 hl (k := 1) rfl (by decide) (by decide) rfl (fun ls hl => ?_)
        refine lv_goto (tgt := 36) hx hb d_MO_closeRun_89 (by decide) ?_
        refine lv_iload hx hb d_MO_closeRun_36 (lv_at hl 0 rfl) ?_
        refine lv_iconst (v := 3) hx hb d_MO_closeRun_38 (by decide) ?_
        refine lv_icmp_ge (tgt := 92) hx hb d_MO_closeRun_39 (by decide) (fun _ => ?_) (fun h => absurd h (by decide))
        refine lv_iload hx hb d_MO_closeRun_92 (lv_at hl 1 rfl) ?_
        refine lv_if_eq (tgt := 118) hx hb d_MO_closeRun_94 (by decide) (fun h => absurd h (by decide)) (fun _ => ?_)
        refine lv_aload_n hx hb d_MO_closeRun_97 rfl (lv_at hl 3 rfl) ?_
        refine lv_iconst (v := 4) hx hb d_MO_closeRun_98 (by decide) ?_
        refine lv_aload_n hx hb d_MO_closeRun_99 rfl (lv_at hl 3 rfl) ?_
        refine r_get hx hb hC hP i_MO (44) (by decide) rfl rfl 11 (by decide) l_MO_92 rfl d_MO_closeRun_100 ?_
        rw [show (su (su (su (su S 44 13 (nI q)) 53 0 ((S 53 0) - (S 52 (3 * q)))) 53 1 ((S 53 1) - (S 52 (3 * q + 1)))) 53 2 ((S 53 2) - (S 52 (3 * q + 2)))) 44 11 = S 44 11 from by rw [su_cell _ _ _ (by decide), su_cell _ _ _ (by decide), su_cell _ _ _ (by decide), su_int _ _ _ (by decide)]]
        rw [show S 44 11 = 0 from he]
        refine lv_iconst (v := 4) hx hb d_MO_closeRun_103 (by decide) ?_
        refine lv_icmp_ne (tgt := 114) hx hb d_MO_closeRun_104 (by decide) (fun _ => ?_) (fun h => absurd h (by decide))
        refine lv_iconst (v := 0) hx hb d_MO_closeRun_114 (by decide) ?_
        refine r_v hC hS (r_runV (np := 2) (As := [.int 4, .int 0]) (rest := []) hx hb hml hC hP hS (by decide) rfl rfl (m_MO_raise l G (su (su (su (su S 44 13 (nI q)) 53 0 ((S 53 0) - (S 52 (3 * q)))) 53 1 ((S 53 1) - (S 52 (3 * q + 1)))) 53 2 ((S 53 2) - (S 52 (3 * q + 2)))) n (by omega) (by rw [su_cell _ _ _ (by decide), su_cell _ _ _ (by decide), su_cell _ _ _ (by decide), su_int _ _ _ (by decide)]; exact hn) 4 0) l_MO_124 im_MO_raise se_MO_raise in_MO c_MO_raise_in (by decide +kernel) ⟨by simp only [rmF]; omega, by simp only [rmF]; omega⟩ rfl hl.1 (Nat.le_of_ble_eq_true rfl) d_MO_closeRun_115 ⟨Nat.le_refl _, Nat.le_refl _⟩) (fun S_115 H locs hw hP hS => ?_)
        rw [hw] at hP
        refine lv_aload_n hx hb d_MO_closeRun_118 rfl (lv_at hl 3 rfl) ?_
        refine r_get hx hb hC hP i_MO (44) (by decide) rfl rfl 11 (by decide) l_MO_92 rfl d_MO_closeRun_119 ?_
        rw [show (moRaise (su (su (su (su S 44 13 (nI q)) 53 0 ((S 53 0) - (S 52 (3 * q)))) 53 1 ((S 53 1) - (S 52 (3 * q + 1)))) 53 2 ((S 53 2) - (S 52 (3 * q + 2)))) n 4 0) 44 11 = 4 from (moRaise_11 _ _ _ _)]
        refine lv_iconst (v := 4) hx hb d_MO_closeRun_122 (by decide) ?_
        refine lv_icmp_ne (tgt := 132) hx hb d_MO_closeRun_123 (by decide) (fun h => absurd h (by decide)) (fun _ => ?_)
        refine lv_aload_n hx hb d_MO_closeRun_126 rfl (lv_at hl 3 rfl) ?_
        refine lv_iload_n hx hb d_MO_closeRun_127 rfl (lv_at hl 5 rfl) ?_
        refine r_put hx hb hC hP hS i_MO t_MO t_MO_ok n_MO (44) (by decide) rfl rfl 10 (by decide) l_MO_121 rfl rfl rfl (Nat.le_of_ble_eq_true rfl) d_MO_closeRun_128 (fun H locs hP hS => ?_)
        exact e_v hx hb hr hlk hC hP hS d_MO_closeRun_131 (by rw [moOwes, decide_eq_true (Int32.not_le.mp c_80), decide_eq_true (Int32.not_le.mp c_80x), decide_eq_true (Int32.not_le.mp c_80xx)] at how; exact absurd how (by decide))

set_option maxHeartbeats 4000000 in
set_option maxRecDepth 100000 in
theorem m_MO_closeRunV4 (l : Launch) (G : WG) (S : SS) (q : Nat) (hq6 : q < 6) (hq : S 44 13 = nI (q + 1)) (bk mi : Int32) (he : S 44 11 = 4) (how : moOwes S q = false) (n : Nat) (hn6 : n < 600) (hn : S 44 18 = nI n) : Cv l y_MO_closeRun b_MO_closeRun 6 2 G [.ref (gA G 44), .int bk, .int mi] S (fun S1 => S1 = su (crH S q) 44 10 mi) := by
  refine mk l (by decide +kernel) (Nat.le_of_ble_eq_true rfl) ?_
  intro pp_ ee_ ss_ mm_ be_ me_ co_ ls hx hb hr hlk hml hC hP hS hl
  have hl : lv_has ls 6 [(0, .ref (gA G 44)), (1, .int bk), (2, .int mi)] := hl
  refine lv_aload_n hx hb d_MO_closeRun_0 rfl (lv_at hl 0 rfl) ?_
  refine r_get hx hb hC hP i_MO (44) (by decide) rfl rfl 11 (by decide) l_MO_92 rfl d_MO_closeRun_1 ?_
  rw [show S 44 11 = 4 from he]
  refine lv_iconst (v := 3) hx hb d_MO_closeRun_4 (by decide) ?_
  refine lv_icmp_ne (tgt := 15) hx hb d_MO_closeRun_5 (by decide) (fun _ => ?_) (fun h => absurd h (by decide))
  refine lv_aload_n hx hb d_MO_closeRun_15 rfl (lv_at hl 0 rfl) ?_
  refine r_get hx hb hC hP i_MO (44) (by decide) rfl rfl 10 (by decide) l_MO_121 rfl d_MO_closeRun_16 ?_
  refine lv_istore_n (lv' := [(3, .int (S 44 10)), (0, .ref (gA G 44)), (1, .int bk), (2, .int mi)]) hx hb d_MO_closeRun_19 rfl hl (by decide) rfl (fun ls hl => ?_)
  refine lv_iconst (v := 0) hx hb d_MO_closeRun_20 (by decide) ?_
  refine lv_istore (lv' := [(4, .int 0), (3, .int (S 44 10)), (0, .ref (gA G 44)), (1, .int bk), (2, .int mi)]) hx hb d_MO_closeRun_21 hl (by decide) rfl (fun ls hl => ?_)
  refine lv_aload_n hx hb d_MO_closeRun_23 rfl (lv_at hl 2 rfl) ?_
  refine lv_dup hx hb d_MO_closeRun_24 rfl ?_
  refine r_get hx hb hC hP i_MO (44) (by decide) rfl rfl 13 (by decide) l_MO_111 rfl d_MO_closeRun_25 ?_
  rw [show S 44 13 = nI (q + 1) from hq]
  refine lv_iconst (v := 1) hx hb d_MO_closeRun_28 (by decide) ?_
  refine lv_isub hx hb d_MO_closeRun_29 ?_
  rw [show (nI (q + 1)) - 1 = nI q from nI_pred q]
  refine r_put hx hb hC hP hS i_MO t_MO t_MO_ok n_MO (44) (by decide) rfl rfl 13 (by decide) l_MO_111 rfl rfl rfl (Nat.le_of_ble_eq_true rfl) d_MO_closeRun_30 (fun H locs hP hS => ?_)
  refine lv_iconst (v := 0) hx hb d_MO_closeRun_33 (by decide) ?_
  refine lv_istore (lv' := [(5, .int 0), (4, .int 0), (3, .int (S 44 10)), (0, .ref (gA G 44)), (1, .int bk), (2, .int mi)]) hx hb d_MO_closeRun_34 hl (by decide) rfl (fun ls hl => ?_)
  refine lv_iload hx hb d_MO_closeRun_36 (lv_at hl 0 rfl) ?_
  refine lv_iconst (v := 3) hx hb d_MO_closeRun_38 (by decide) ?_
  refine lv_icmp_ge (tgt := 92) hx hb d_MO_closeRun_39 (by decide) (fun h => absurd h (by decide)) (fun _ => ?_)
  refine lv_aload_n hx hb d_MO_closeRun_42 rfl (lv_at hl 3 rfl) ?_
  refine r_get hx hb hC hP i_MO (44) (by decide) rfl rfl 15 (by decide) l_MO_38 rfl d_MO_closeRun_43 ?_
  refine lv_iload hx hb d_MO_closeRun_46 (lv_at hl 0 rfl) ?_
  refine lv_dup2_11 hx hb d_MO_closeRun_48 rfl rfl ?_
  refine r_ild hx hb hC hP (53) (by decide) rfl 0 rfl (by decide) (by decide) d_MO_closeRun_49 ?_
  rw [show (su S 44 13 (nI q)) 53 0 = S 53 0 from by rw [su_cell _ _ _ (by decide)]]
  refine lv_aload_n hx hb d_MO_closeRun_50 rfl (lv_at hl 3 rfl) ?_
  refine r_get hx hb hC hP i_MO (44) (by decide) rfl rfl 14 (by decide) l_MO_35 rfl d_MO_closeRun_51 ?_
  refine lv_iconst (v := 3) hx hb d_MO_closeRun_54 (by decide) ?_
  refine lv_aload_n hx hb d_MO_closeRun_55 rfl (lv_at hl 3 rfl) ?_
  refine r_get hx hb hC hP i_MO (44) (by decide) rfl rfl 13 (by decide) l_MO_111 rfl d_MO_closeRun_56 ?_
  rw [show (su S 44 13 (nI q)) 44 13 = nI q from by rw [su_same]]
  refine lv_imul hx hb d_MO_closeRun_59 ?_
  refine lv_iload hx hb d_MO_closeRun_60 (lv_at hl 0 rfl) ?_
  refine lv_iadd hx hb d_MO_closeRun_62 ?_
  rw [show (3 * (nI q)) + 0 = nI (3 * q) from (nI_m3 q 0)]
  refine r_ild hx hb hC hP (52) (by decide) rfl (3 * q) rfl (by omega) (by decide) d_MO_closeRun_63 ?_
  rw [show (su S 44 13 (nI q)) 52 (3 * q) = S 52 (3 * q) from by rw [su_cell _ _ _ (by decide)]]
  refine lv_isub hx hb d_MO_closeRun_64 ?_
  refine r_ist hx hb hC hP hS (53) (by decide) (fun _ => rfl) 0 rfl (by decide) (by decide) d_MO_closeRun_65 (fun H locs hP hS => ?_)
  refine lv_aload_n hx hb d_MO_closeRun_66 rfl (lv_at hl 3 rfl) ?_
  refine r_get hx hb hC hP i_MO (44) (by decide) rfl rfl 14 (by decide) l_MO_35 rfl d_MO_closeRun_67 ?_
  refine lv_iconst (v := 3) hx hb d_MO_closeRun_70 (by decide) ?_
  refine lv_aload_n hx hb d_MO_closeRun_71 rfl (lv_at hl 3 rfl) ?_
  refine r_get hx hb hC hP i_MO (44) (by decide) rfl rfl 13 (by decide) l_MO_111 rfl d_MO_closeRun_72 ?_
  rw [show (su (su S 44 13 (nI q)) 53 0 ((S 53 0) - (S 52 (3 * q)))) 44 13 = nI q from by rw [su_cell _ _ _ (by decide), su_same]]
  refine lv_imul hx hb d_MO_closeRun_75 ?_
  refine lv_iload hx hb d_MO_closeRun_76 (lv_at hl 0 rfl) ?_
  refine lv_iadd hx hb d_MO_closeRun_78 ?_
  rw [show (3 * (nI q)) + 0 = nI (3 * q) from (nI_m3 q 0)]
  refine r_ild hx hb hC hP (52) (by decide) rfl (3 * q) rfl (by omega) (by decide) d_MO_closeRun_79 ?_
  rw [show (su (su S 44 13 (nI q)) 53 0 ((S 53 0) - (S 52 (3 * q)))) 52 (3 * q) = S 52 (3 * q) from by rw [su_cell _ _ _ (by decide), su_cell _ _ _ (by decide)]]
  refine lv_if_le (tgt := 86) hx hb d_MO_closeRun_80 (by decide) (fun c_80 => ?_) (fun c_80 => ?_)
  · refine lv_iinc (v := 1) (lv' := [(5, .int 1), (4, .int 0), (3, .int (S 44 10)), (0, .ref (gA G 44)), (1, .int bk), (2, .int mi)]) hx hb d_MO_closeRun_86 hl (k := 0) rfl (by decide) (by decide) rfl (fun ls hl => ?_)
    refine lv_goto (tgt := 36) hx hb d_MO_closeRun_89 (by decide) ?_
    refine lv_iload hx hb d_MO_closeRun_36 (lv_at hl 0 rfl) ?_
    refine lv_iconst (v := 3) hx hb d_MO_closeRun_38 (by decide) ?_
    refine lv_icmp_ge (tgt := 92) hx hb d_MO_closeRun_39 (by decide) (fun h => absurd h (by decide)) (fun _ => ?_)
    refine lv_aload_n hx hb d_MO_closeRun_42 rfl (lv_at hl 3 rfl) ?_
    refine r_get hx hb hC hP i_MO (44) (by decide) rfl rfl 15 (by decide) l_MO_38 rfl d_MO_closeRun_43 ?_
    refine lv_iload hx hb d_MO_closeRun_46 (lv_at hl 0 rfl) ?_
    refine lv_dup2_11 hx hb d_MO_closeRun_48 rfl rfl ?_
    refine r_ild hx hb hC hP (53) (by decide) rfl 1 rfl (by decide) (by decide) d_MO_closeRun_49 ?_
    rw [show (su (su S 44 13 (nI q)) 53 0 ((S 53 0) - (S 52 (3 * q)))) 53 1 = S 53 1 from by rw [su_int _ _ _ (by decide), su_cell _ _ _ (by decide)]]
    refine lv_aload_n hx hb d_MO_closeRun_50 rfl (lv_at hl 3 rfl) ?_
    refine r_get hx hb hC hP i_MO (44) (by decide) rfl rfl 14 (by decide) l_MO_35 rfl d_MO_closeRun_51 ?_
    refine lv_iconst (v := 3) hx hb d_MO_closeRun_54 (by decide) ?_
    refine lv_aload_n hx hb d_MO_closeRun_55 rfl (lv_at hl 3 rfl) ?_
    refine r_get hx hb hC hP i_MO (44) (by decide) rfl rfl 13 (by decide) l_MO_111 rfl d_MO_closeRun_56 ?_
    rw [show (su (su S 44 13 (nI q)) 53 0 ((S 53 0) - (S 52 (3 * q)))) 44 13 = nI q from by rw [su_cell _ _ _ (by decide), su_same]]
    refine lv_imul hx hb d_MO_closeRun_59 ?_
    refine lv_iload hx hb d_MO_closeRun_60 (lv_at hl 0 rfl) ?_
    refine lv_iadd hx hb d_MO_closeRun_62 ?_
    rw [show (3 * (nI q)) + 1 = nI (3 * q + 1) from (nI_m3 q 1)]
    refine r_ild hx hb hC hP (52) (by decide) rfl (3 * q + 1) rfl (by omega) (by decide) d_MO_closeRun_63 ?_
    rw [show (su (su S 44 13 (nI q)) 53 0 ((S 53 0) - (S 52 (3 * q)))) 52 (3 * q + 1) = S 52 (3 * q + 1) from by rw [su_cell _ _ _ (by decide), su_cell _ _ _ (by decide)]]
    refine lv_isub hx hb d_MO_closeRun_64 ?_
    refine r_ist hx hb hC hP hS (53) (by decide) (fun _ => rfl) 1 rfl (by decide) (by decide) d_MO_closeRun_65 (fun H locs hP hS => ?_)
    refine lv_aload_n hx hb d_MO_closeRun_66 rfl (lv_at hl 3 rfl) ?_
    refine r_get hx hb hC hP i_MO (44) (by decide) rfl rfl 14 (by decide) l_MO_35 rfl d_MO_closeRun_67 ?_
    refine lv_iconst (v := 3) hx hb d_MO_closeRun_70 (by decide) ?_
    refine lv_aload_n hx hb d_MO_closeRun_71 rfl (lv_at hl 3 rfl) ?_
    refine r_get hx hb hC hP i_MO (44) (by decide) rfl rfl 13 (by decide) l_MO_111 rfl d_MO_closeRun_72 ?_
    rw [show (su (su (su S 44 13 (nI q)) 53 0 ((S 53 0) - (S 52 (3 * q)))) 53 1 ((S 53 1) - (S 52 (3 * q + 1)))) 44 13 = nI q from by rw [su_cell _ _ _ (by decide), su_cell _ _ _ (by decide), su_same]]
    refine lv_imul hx hb d_MO_closeRun_75 ?_
    refine lv_iload hx hb d_MO_closeRun_76 (lv_at hl 0 rfl) ?_
    refine lv_iadd hx hb d_MO_closeRun_78 ?_
    rw [show (3 * (nI q)) + 1 = nI (3 * q + 1) from (nI_m3 q 1)]
    refine r_ild hx hb hC hP (52) (by decide) rfl (3 * q + 1) rfl (by omega) (by decide) d_MO_closeRun_79 ?_
    rw [show (su (su (su S 44 13 (nI q)) 53 0 ((S 53 0) - (S 52 (3 * q)))) 53 1 ((S 53 1) - (S 52 (3 * q + 1)))) 52 (3 * q + 1) = S 52 (3 * q + 1) from by rw [su_cell _ _ _ (by decide), su_cell _ _ _ (by decide), su_cell _ _ _ (by decide)]]
    refine lv_if_le (tgt := 86) hx hb d_MO_closeRun_80 (by decide) (fun c_80x => ?_) (fun c_80x => ?_)
    · refine lv_iinc (v := 2) (lv' := [(5, .int 2), (4, .int 0), (3, .int (S 44 10)), (0, .ref (gA G 44)), (1, .int bk), (2, .int mi)]) hx hb d_MO_closeRun_86 hl (k := 0) rfl (by decide) (by decide) rfl (fun ls hl => ?_)
      refine lv_goto (tgt := 36) hx hb d_MO_closeRun_89 (by decide) ?_
      refine lv_iload hx hb d_MO_closeRun_36 (lv_at hl 0 rfl) ?_
      refine lv_iconst (v := 3) hx hb d_MO_closeRun_38 (by decide) ?_
      refine lv_icmp_ge (tgt := 92) hx hb d_MO_closeRun_39 (by decide) (fun h => absurd h (by decide)) (fun _ => ?_)
      refine lv_aload_n hx hb d_MO_closeRun_42 rfl (lv_at hl 3 rfl) ?_
      refine r_get hx hb hC hP i_MO (44) (by decide) rfl rfl 15 (by decide) l_MO_38 rfl d_MO_closeRun_43 ?_
      refine lv_iload hx hb d_MO_closeRun_46 (lv_at hl 0 rfl) ?_
      refine lv_dup2_11 hx hb d_MO_closeRun_48 rfl rfl ?_
      refine r_ild hx hb hC hP (53) (by decide) rfl 2 rfl (by decide) (by decide) d_MO_closeRun_49 ?_
      rw [show (su (su (su S 44 13 (nI q)) 53 0 ((S 53 0) - (S 52 (3 * q)))) 53 1 ((S 53 1) - (S 52 (3 * q + 1)))) 53 2 = S 53 2 from by rw [su_int _ _ _ (by decide), su_int _ _ _ (by decide), su_cell _ _ _ (by decide)]]
      refine lv_aload_n hx hb d_MO_closeRun_50 rfl (lv_at hl 3 rfl) ?_
      refine r_get hx hb hC hP i_MO (44) (by decide) rfl rfl 14 (by decide) l_MO_35 rfl d_MO_closeRun_51 ?_
      refine lv_iconst (v := 3) hx hb d_MO_closeRun_54 (by decide) ?_
      refine lv_aload_n hx hb d_MO_closeRun_55 rfl (lv_at hl 3 rfl) ?_
      refine r_get hx hb hC hP i_MO (44) (by decide) rfl rfl 13 (by decide) l_MO_111 rfl d_MO_closeRun_56 ?_
      rw [show (su (su (su S 44 13 (nI q)) 53 0 ((S 53 0) - (S 52 (3 * q)))) 53 1 ((S 53 1) - (S 52 (3 * q + 1)))) 44 13 = nI q from by rw [su_cell _ _ _ (by decide), su_cell _ _ _ (by decide), su_same]]
      refine lv_imul hx hb d_MO_closeRun_59 ?_
      refine lv_iload hx hb d_MO_closeRun_60 (lv_at hl 0 rfl) ?_
      refine lv_iadd hx hb d_MO_closeRun_62 ?_
      rw [show (3 * (nI q)) + 2 = nI (3 * q + 2) from (nI_m3 q 2)]
      refine r_ild hx hb hC hP (52) (by decide) rfl (3 * q + 2) rfl (by omega) (by decide) d_MO_closeRun_63 ?_
      rw [show (su (su (su S 44 13 (nI q)) 53 0 ((S 53 0) - (S 52 (3 * q)))) 53 1 ((S 53 1) - (S 52 (3 * q + 1)))) 52 (3 * q + 2) = S 52 (3 * q + 2) from by rw [su_cell _ _ _ (by decide), su_cell _ _ _ (by decide), su_cell _ _ _ (by decide)]]
      refine lv_isub hx hb d_MO_closeRun_64 ?_
      refine r_ist hx hb hC hP hS (53) (by decide) (fun _ => rfl) 2 rfl (by decide) (by decide) d_MO_closeRun_65 (fun H locs hP hS => ?_)
      refine lv_aload_n hx hb d_MO_closeRun_66 rfl (lv_at hl 3 rfl) ?_
      refine r_get hx hb hC hP i_MO (44) (by decide) rfl rfl 14 (by decide) l_MO_35 rfl d_MO_closeRun_67 ?_
      refine lv_iconst (v := 3) hx hb d_MO_closeRun_70 (by decide) ?_
      refine lv_aload_n hx hb d_MO_closeRun_71 rfl (lv_at hl 3 rfl) ?_
      refine r_get hx hb hC hP i_MO (44) (by decide) rfl rfl 13 (by decide) l_MO_111 rfl d_MO_closeRun_72 ?_
      rw [show (su (su (su (su S 44 13 (nI q)) 53 0 ((S 53 0) - (S 52 (3 * q)))) 53 1 ((S 53 1) - (S 52 (3 * q + 1)))) 53 2 ((S 53 2) - (S 52 (3 * q + 2)))) 44 13 = nI q from by rw [su_cell _ _ _ (by decide), su_cell _ _ _ (by decide), su_cell _ _ _ (by decide), su_same]]
      refine lv_imul hx hb d_MO_closeRun_75 ?_
      refine lv_iload hx hb d_MO_closeRun_76 (lv_at hl 0 rfl) ?_
      refine lv_iadd hx hb d_MO_closeRun_78 ?_
      rw [show (3 * (nI q)) + 2 = nI (3 * q + 2) from (nI_m3 q 2)]
      refine r_ild hx hb hC hP (52) (by decide) rfl (3 * q + 2) rfl (by omega) (by decide) d_MO_closeRun_79 ?_
      rw [show (su (su (su (su S 44 13 (nI q)) 53 0 ((S 53 0) - (S 52 (3 * q)))) 53 1 ((S 53 1) - (S 52 (3 * q + 1)))) 53 2 ((S 53 2) - (S 52 (3 * q + 2)))) 52 (3 * q + 2) = S 52 (3 * q + 2) from by rw [su_cell _ _ _ (by decide), su_cell _ _ _ (by decide), su_cell _ _ _ (by decide), su_cell _ _ _ (by decide)]]
      refine lv_if_le (tgt := 86) hx hb d_MO_closeRun_80 (by decide) (fun c_80xx => ?_) (fun c_80xx => ?_)
      · refine lv_iinc (v := 3) (lv' := [(5, .int 3), (4, .int 0), (3, .int (S 44 10)), (0, .ref (gA G 44)), (1, .int bk), (2, .int mi)]) hx hb d_MO_closeRun_86 hl (k := 0) rfl (by decide) (by decide) rfl (fun ls hl => ?_)
        refine lv_goto (tgt := 36) hx hb d_MO_closeRun_89 (by decide) ?_
        refine lv_iload hx hb d_MO_closeRun_36 (lv_at hl 0 rfl) ?_
        refine lv_iconst (v := 3) hx hb d_MO_closeRun_38 (by decide) ?_
        refine lv_icmp_ge (tgt := 92) hx hb d_MO_closeRun_39 (by decide) (fun _ => ?_) (fun h => absurd h (by decide))
        refine lv_iload hx hb d_MO_closeRun_92 (lv_at hl 1 rfl) ?_
        refine lv_if_eq (tgt := 118) hx hb d_MO_closeRun_94 (by decide) (fun _ => ?_) (fun h => absurd h (by decide))
        refine lv_aload_n hx hb d_MO_closeRun_118 rfl (lv_at hl 3 rfl) ?_
        refine r_get hx hb hC hP i_MO (44) (by decide) rfl rfl 11 (by decide) l_MO_92 rfl d_MO_closeRun_119 ?_
        rw [show (su (su (su (su S 44 13 (nI q)) 53 0 ((S 53 0) - (S 52 (3 * q)))) 53 1 ((S 53 1) - (S 52 (3 * q + 1)))) 53 2 ((S 53 2) - (S 52 (3 * q + 2)))) 44 11 = S 44 11 from by rw [su_cell _ _ _ (by decide), su_cell _ _ _ (by decide), su_cell _ _ _ (by decide), su_int _ _ _ (by decide)]]
        rw [show S 44 11 = 4 from he]
        refine lv_iconst (v := 4) hx hb d_MO_closeRun_122 (by decide) ?_
        refine lv_icmp_ne (tgt := 132) hx hb d_MO_closeRun_123 (by decide) (fun h => absurd h (by decide)) (fun _ => ?_)
        refine lv_aload_n hx hb d_MO_closeRun_126 rfl (lv_at hl 3 rfl) ?_
        refine lv_iload_n hx hb d_MO_closeRun_127 rfl (lv_at hl 5 rfl) ?_
        refine r_put hx hb hC hP hS i_MO t_MO t_MO_ok n_MO (44) (by decide) rfl rfl 10 (by decide) l_MO_121 rfl rfl rfl (Nat.le_of_ble_eq_true rfl) d_MO_closeRun_128 (fun H locs hP hS => ?_)
        exact e_v hx hb hr hlk hC hP hS d_MO_closeRun_131 rfl
      · refine lv_iconst (v := 1) hx hb d_MO_closeRun_83 (by decide) ?_
        refine lv_istore (lv' := [(4, .int 1), (5, .int 2), (3, .int (S 44 10)), (0, .ref (gA G 44)), (1, .int bk), (2, .int mi)]) hx hb d_MO_closeRun_84 hl (by decide) rfl (fun ls hl => ?_)
        refine lv_iinc (v := 3) (lv' := [(5, .int 3), (4, .int 1), (3, .int (S 44 10)), (0, .ref (gA G 44)), (1, .int bk), (2, .int mi)]) hx hb d_MO_closeRun_86 hl (k := 1) rfl (by decide) (by decide) rfl (fun ls hl => ?_)
        refine lv_goto (tgt := 36) hx hb d_MO_closeRun_89 (by decide) ?_
        refine lv_iload hx hb d_MO_closeRun_36 (lv_at hl 0 rfl) ?_
        refine lv_iconst (v := 3) hx hb d_MO_closeRun_38 (by decide) ?_
        refine lv_icmp_ge (tgt := 92) hx hb d_MO_closeRun_39 (by decide) (fun _ => ?_) (fun h => absurd h (by decide))
        refine lv_iload hx hb d_MO_closeRun_92 (lv_at hl 1 rfl) ?_
        refine lv_if_eq (tgt := 118) hx hb d_MO_closeRun_94 (by decide) (fun h => absurd h (by decide)) (fun _ => ?_)
        refine lv_aload_n hx hb d_MO_closeRun_97 rfl (lv_at hl 3 rfl) ?_
        refine lv_iconst (v := 4) hx hb d_MO_closeRun_98 (by decide) ?_
        refine lv_aload_n hx hb d_MO_closeRun_99 rfl (lv_at hl 3 rfl) ?_
        refine r_get hx hb hC hP i_MO (44) (by decide) rfl rfl 11 (by decide) l_MO_92 rfl d_MO_closeRun_100 ?_
        rw [show (su (su (su (su S 44 13 (nI q)) 53 0 ((S 53 0) - (S 52 (3 * q)))) 53 1 ((S 53 1) - (S 52 (3 * q + 1)))) 53 2 ((S 53 2) - (S 52 (3 * q + 2)))) 44 11 = S 44 11 from by rw [su_cell _ _ _ (by decide), su_cell _ _ _ (by decide), su_cell _ _ _ (by decide), su_int _ _ _ (by decide)]]
        rw [show S 44 11 = 4 from he]
        refine lv_iconst (v := 4) hx hb d_MO_closeRun_103 (by decide) ?_
        refine lv_icmp_ne (tgt := 114) hx hb d_MO_closeRun_104 (by decide) (fun h => absurd h (by decide)) (fun _ => ?_)
        refine lv_aload_n hx hb d_MO_closeRun_107 rfl (lv_at hl 3 rfl) ?_
        refine r_get hx hb hC hP i_MO (44) (by decide) rfl rfl 12 (by decide) l_MO_95 rfl d_MO_closeRun_108 ?_
        rw [show (su (su (su (su S 44 13 (nI q)) 53 0 ((S 53 0) - (S 52 (3 * q)))) 53 1 ((S 53 1) - (S 52 (3 * q + 1)))) 53 2 ((S 53 2) - (S 52 (3 * q + 2)))) 44 12 = S 44 12 from by rw [su_cell _ _ _ (by decide), su_cell _ _ _ (by decide), su_cell _ _ _ (by decide), su_int _ _ _ (by decide)]]
        refine lv_goto (tgt := 115) hx hb d_MO_closeRun_111 (by decide) ?_
        refine r_v hC hS (r_runV (np := 2) (As := [.int 4, .int (S 44 12)]) (rest := []) hx hb hml hC hP hS (by decide) rfl rfl (m_MO_raise l G (su (su (su (su S 44 13 (nI q)) 53 0 ((S 53 0) - (S 52 (3 * q)))) 53 1 ((S 53 1) - (S 52 (3 * q + 1)))) 53 2 ((S 53 2) - (S 52 (3 * q + 2)))) n (by omega) (by rw [su_cell _ _ _ (by decide), su_cell _ _ _ (by decide), su_cell _ _ _ (by decide), su_int _ _ _ (by decide)]; exact hn) 4 (S 44 12)) l_MO_124 im_MO_raise se_MO_raise in_MO c_MO_raise_in (by decide +kernel) ⟨by simp only [rmF]; omega, by simp only [rmF]; omega⟩ rfl hl.1 (Nat.le_of_ble_eq_true rfl) d_MO_closeRun_115 ⟨Nat.le_refl _, Nat.le_refl _⟩) (fun S_115 H locs hw hP hS => ?_)
        rw [hw] at hP
        refine lv_aload_n hx hb d_MO_closeRun_118 rfl (lv_at hl 3 rfl) ?_
        refine r_get hx hb hC hP i_MO (44) (by decide) rfl rfl 11 (by decide) l_MO_92 rfl d_MO_closeRun_119 ?_
        rw [show (moRaise (su (su (su (su S 44 13 (nI q)) 53 0 ((S 53 0) - (S 52 (3 * q)))) 53 1 ((S 53 1) - (S 52 (3 * q + 1)))) 53 2 ((S 53 2) - (S 52 (3 * q + 2)))) n 4 (S 44 12)) 44 11 = 4 from (moRaise_11 _ _ _ _)]
        refine lv_iconst (v := 4) hx hb d_MO_closeRun_122 (by decide) ?_
        refine lv_icmp_ne (tgt := 132) hx hb d_MO_closeRun_123 (by decide) (fun h => absurd h (by decide)) (fun _ => ?_)
        refine lv_aload_n hx hb d_MO_closeRun_126 rfl (lv_at hl 3 rfl) ?_
        refine lv_iload_n hx hb d_MO_closeRun_127 rfl (lv_at hl 5 rfl) ?_
        refine r_put hx hb hC hP hS i_MO t_MO t_MO_ok n_MO (44) (by decide) rfl rfl 10 (by decide) l_MO_121 rfl rfl rfl (Nat.le_of_ble_eq_true rfl) d_MO_closeRun_128 (fun H locs hP hS => ?_)
        exact e_v hx hb hr hlk hC hP hS d_MO_closeRun_131 (by rw [moOwes, decide_eq_false (Int32.not_lt.mpr c_80), decide_eq_false (Int32.not_lt.mpr c_80x), decide_eq_true (Int32.not_le.mp c_80xx)] at how; exact absurd how (by decide))
    · refine lv_iconst (v := 1) hx hb d_MO_closeRun_83 (by decide) ?_
      refine lv_istore (lv' := [(4, .int 1), (5, .int 1), (3, .int (S 44 10)), (0, .ref (gA G 44)), (1, .int bk), (2, .int mi)]) hx hb d_MO_closeRun_84 hl (by decide) rfl (fun ls hl => ?_)
      refine lv_iinc (v := 2) (lv' := [(5, .int 2), (4, .int 1), (3, .int (S 44 10)), (0, .ref (gA G 44)), (1, .int bk), (2, .int mi)]) hx hb d_MO_closeRun_86 hl (k := 1) rfl (by decide) (by decide) rfl (fun ls hl => ?_)
      refine lv_goto (tgt := 36) hx hb d_MO_closeRun_89 (by decide) ?_
      refine lv_iload hx hb d_MO_closeRun_36 (lv_at hl 0 rfl) ?_
      refine lv_iconst (v := 3) hx hb d_MO_closeRun_38 (by decide) ?_
      refine lv_icmp_ge (tgt := 92) hx hb d_MO_closeRun_39 (by decide) (fun h => absurd h (by decide)) (fun _ => ?_)
      refine lv_aload_n hx hb d_MO_closeRun_42 rfl (lv_at hl 3 rfl) ?_
      refine r_get hx hb hC hP i_MO (44) (by decide) rfl rfl 15 (by decide) l_MO_38 rfl d_MO_closeRun_43 ?_
      refine lv_iload hx hb d_MO_closeRun_46 (lv_at hl 0 rfl) ?_
      refine lv_dup2_11 hx hb d_MO_closeRun_48 rfl rfl ?_
      refine r_ild hx hb hC hP (53) (by decide) rfl 2 rfl (by decide) (by decide) d_MO_closeRun_49 ?_
      rw [show (su (su (su S 44 13 (nI q)) 53 0 ((S 53 0) - (S 52 (3 * q)))) 53 1 ((S 53 1) - (S 52 (3 * q + 1)))) 53 2 = S 53 2 from by rw [su_int _ _ _ (by decide), su_int _ _ _ (by decide), su_cell _ _ _ (by decide)]]
      refine lv_aload_n hx hb d_MO_closeRun_50 rfl (lv_at hl 3 rfl) ?_
      refine r_get hx hb hC hP i_MO (44) (by decide) rfl rfl 14 (by decide) l_MO_35 rfl d_MO_closeRun_51 ?_
      refine lv_iconst (v := 3) hx hb d_MO_closeRun_54 (by decide) ?_
      refine lv_aload_n hx hb d_MO_closeRun_55 rfl (lv_at hl 3 rfl) ?_
      refine r_get hx hb hC hP i_MO (44) (by decide) rfl rfl 13 (by decide) l_MO_111 rfl d_MO_closeRun_56 ?_
      rw [show (su (su (su S 44 13 (nI q)) 53 0 ((S 53 0) - (S 52 (3 * q)))) 53 1 ((S 53 1) - (S 52 (3 * q + 1)))) 44 13 = nI q from by rw [su_cell _ _ _ (by decide), su_cell _ _ _ (by decide), su_same]]
      refine lv_imul hx hb d_MO_closeRun_59 ?_
      refine lv_iload hx hb d_MO_closeRun_60 (lv_at hl 0 rfl) ?_
      refine lv_iadd hx hb d_MO_closeRun_62 ?_
      rw [show (3 * (nI q)) + 2 = nI (3 * q + 2) from (nI_m3 q 2)]
      refine r_ild hx hb hC hP (52) (by decide) rfl (3 * q + 2) rfl (by omega) (by decide) d_MO_closeRun_63 ?_
      rw [show (su (su (su S 44 13 (nI q)) 53 0 ((S 53 0) - (S 52 (3 * q)))) 53 1 ((S 53 1) - (S 52 (3 * q + 1)))) 52 (3 * q + 2) = S 52 (3 * q + 2) from by rw [su_cell _ _ _ (by decide), su_cell _ _ _ (by decide), su_cell _ _ _ (by decide)]]
      refine lv_isub hx hb d_MO_closeRun_64 ?_
      refine r_ist hx hb hC hP hS (53) (by decide) (fun _ => rfl) 2 rfl (by decide) (by decide) d_MO_closeRun_65 (fun H locs hP hS => ?_)
      refine lv_aload_n hx hb d_MO_closeRun_66 rfl (lv_at hl 3 rfl) ?_
      refine r_get hx hb hC hP i_MO (44) (by decide) rfl rfl 14 (by decide) l_MO_35 rfl d_MO_closeRun_67 ?_
      refine lv_iconst (v := 3) hx hb d_MO_closeRun_70 (by decide) ?_
      refine lv_aload_n hx hb d_MO_closeRun_71 rfl (lv_at hl 3 rfl) ?_
      refine r_get hx hb hC hP i_MO (44) (by decide) rfl rfl 13 (by decide) l_MO_111 rfl d_MO_closeRun_72 ?_
      rw [show (su (su (su (su S 44 13 (nI q)) 53 0 ((S 53 0) - (S 52 (3 * q)))) 53 1 ((S 53 1) - (S 52 (3 * q + 1)))) 53 2 ((S 53 2) - (S 52 (3 * q + 2)))) 44 13 = nI q from by rw [su_cell _ _ _ (by decide), su_cell _ _ _ (by decide), su_cell _ _ _ (by decide), su_same]]
      refine lv_imul hx hb d_MO_closeRun_75 ?_
      refine lv_iload hx hb d_MO_closeRun_76 (lv_at hl 0 rfl) ?_
      refine lv_iadd hx hb d_MO_closeRun_78 ?_
      rw [show (3 * (nI q)) + 2 = nI (3 * q + 2) from (nI_m3 q 2)]
      refine r_ild hx hb hC hP (52) (by decide) rfl (3 * q + 2) rfl (by omega) (by decide) d_MO_closeRun_79 ?_
      rw [show (su (su (su (su S 44 13 (nI q)) 53 0 ((S 53 0) - (S 52 (3 * q)))) 53 1 ((S 53 1) - (S 52 (3 * q + 1)))) 53 2 ((S 53 2) - (S 52 (3 * q + 2)))) 52 (3 * q + 2) = S 52 (3 * q + 2) from by rw [su_cell _ _ _ (by decide), su_cell _ _ _ (by decide), su_cell _ _ _ (by decide), su_cell _ _ _ (by decide)]]
      refine lv_if_le (tgt := 86) hx hb d_MO_closeRun_80 (by decide) (fun c_80xx => ?_) (fun c_80xx => ?_)
      · refine lv_iinc (v := 3) (lv' := [(5, .int 3), (4, .int 1), (3, .int (S 44 10)), (0, .ref (gA G 44)), (1, .int bk), (2, .int mi)]) hx hb d_MO_closeRun_86 hl (k := 0) rfl (by decide) (by decide) rfl (fun ls hl => ?_)
        refine lv_goto (tgt := 36) hx hb d_MO_closeRun_89 (by decide) ?_
        refine lv_iload hx hb d_MO_closeRun_36 (lv_at hl 0 rfl) ?_
        refine lv_iconst (v := 3) hx hb d_MO_closeRun_38 (by decide) ?_
        refine lv_icmp_ge (tgt := 92) hx hb d_MO_closeRun_39 (by decide) (fun _ => ?_) (fun h => absurd h (by decide))
        refine lv_iload hx hb d_MO_closeRun_92 (lv_at hl 1 rfl) ?_
        refine lv_if_eq (tgt := 118) hx hb d_MO_closeRun_94 (by decide) (fun h => absurd h (by decide)) (fun _ => ?_)
        refine lv_aload_n hx hb d_MO_closeRun_97 rfl (lv_at hl 3 rfl) ?_
        refine lv_iconst (v := 4) hx hb d_MO_closeRun_98 (by decide) ?_
        refine lv_aload_n hx hb d_MO_closeRun_99 rfl (lv_at hl 3 rfl) ?_
        refine r_get hx hb hC hP i_MO (44) (by decide) rfl rfl 11 (by decide) l_MO_92 rfl d_MO_closeRun_100 ?_
        rw [show (su (su (su (su S 44 13 (nI q)) 53 0 ((S 53 0) - (S 52 (3 * q)))) 53 1 ((S 53 1) - (S 52 (3 * q + 1)))) 53 2 ((S 53 2) - (S 52 (3 * q + 2)))) 44 11 = S 44 11 from by rw [su_cell _ _ _ (by decide), su_cell _ _ _ (by decide), su_cell _ _ _ (by decide), su_int _ _ _ (by decide)]]
        rw [show S 44 11 = 4 from he]
        refine lv_iconst (v := 4) hx hb d_MO_closeRun_103 (by decide) ?_
        refine lv_icmp_ne (tgt := 114) hx hb d_MO_closeRun_104 (by decide) (fun h => absurd h (by decide)) (fun _ => ?_)
        refine lv_aload_n hx hb d_MO_closeRun_107 rfl (lv_at hl 3 rfl) ?_
        refine r_get hx hb hC hP i_MO (44) (by decide) rfl rfl 12 (by decide) l_MO_95 rfl d_MO_closeRun_108 ?_
        rw [show (su (su (su (su S 44 13 (nI q)) 53 0 ((S 53 0) - (S 52 (3 * q)))) 53 1 ((S 53 1) - (S 52 (3 * q + 1)))) 53 2 ((S 53 2) - (S 52 (3 * q + 2)))) 44 12 = S 44 12 from by rw [su_cell _ _ _ (by decide), su_cell _ _ _ (by decide), su_cell _ _ _ (by decide), su_int _ _ _ (by decide)]]
        refine lv_goto (tgt := 115) hx hb d_MO_closeRun_111 (by decide) ?_
        refine r_v hC hS (r_runV (np := 2) (As := [.int 4, .int (S 44 12)]) (rest := []) hx hb hml hC hP hS (by decide) rfl rfl (m_MO_raise l G (su (su (su (su S 44 13 (nI q)) 53 0 ((S 53 0) - (S 52 (3 * q)))) 53 1 ((S 53 1) - (S 52 (3 * q + 1)))) 53 2 ((S 53 2) - (S 52 (3 * q + 2)))) n (by omega) (by rw [su_cell _ _ _ (by decide), su_cell _ _ _ (by decide), su_cell _ _ _ (by decide), su_int _ _ _ (by decide)]; exact hn) 4 (S 44 12)) l_MO_124 im_MO_raise se_MO_raise in_MO c_MO_raise_in (by decide +kernel) ⟨by simp only [rmF]; omega, by simp only [rmF]; omega⟩ rfl hl.1 (Nat.le_of_ble_eq_true rfl) d_MO_closeRun_115 ⟨Nat.le_refl _, Nat.le_refl _⟩) (fun S_115 H locs hw hP hS => ?_)
        rw [hw] at hP
        refine lv_aload_n hx hb d_MO_closeRun_118 rfl (lv_at hl 3 rfl) ?_
        refine r_get hx hb hC hP i_MO (44) (by decide) rfl rfl 11 (by decide) l_MO_92 rfl d_MO_closeRun_119 ?_
        rw [show (moRaise (su (su (su (su S 44 13 (nI q)) 53 0 ((S 53 0) - (S 52 (3 * q)))) 53 1 ((S 53 1) - (S 52 (3 * q + 1)))) 53 2 ((S 53 2) - (S 52 (3 * q + 2)))) n 4 (S 44 12)) 44 11 = 4 from (moRaise_11 _ _ _ _)]
        refine lv_iconst (v := 4) hx hb d_MO_closeRun_122 (by decide) ?_
        refine lv_icmp_ne (tgt := 132) hx hb d_MO_closeRun_123 (by decide) (fun h => absurd h (by decide)) (fun _ => ?_)
        refine lv_aload_n hx hb d_MO_closeRun_126 rfl (lv_at hl 3 rfl) ?_
        refine lv_iload_n hx hb d_MO_closeRun_127 rfl (lv_at hl 5 rfl) ?_
        refine r_put hx hb hC hP hS i_MO t_MO t_MO_ok n_MO (44) (by decide) rfl rfl 10 (by decide) l_MO_121 rfl rfl rfl (Nat.le_of_ble_eq_true rfl) d_MO_closeRun_128 (fun H locs hP hS => ?_)
        exact e_v hx hb hr hlk hC hP hS d_MO_closeRun_131 (by rw [moOwes, decide_eq_false (Int32.not_lt.mpr c_80), decide_eq_true (Int32.not_le.mp c_80x), decide_eq_false (Int32.not_lt.mpr c_80xx)] at how; exact absurd how (by decide))
      · refine lv_iconst (v := 1) hx hb d_MO_closeRun_83 (by decide) ?_
        refine lv_istore (lv' := [(4, .int 1), (5, .int 2), (3, .int (S 44 10)), (0, .ref (gA G 44)), (1, .int bk), (2, .int mi)]) hx hb d_MO_closeRun_84 hl (by decide) rfl (fun ls hl => ?_)
        refine lv_iinc (v := 3) (lv' := [(5, .int 3), (4, .int 1), (3, .int (S 44 10)), (0, .ref (gA G 44)), (1, .int bk), (2, .int mi)]) hx hb d_MO_closeRun_86 hl (k := 1) rfl (by decide) (by decide) rfl (fun ls hl => ?_)
        refine lv_goto (tgt := 36) hx hb d_MO_closeRun_89 (by decide) ?_
        refine lv_iload hx hb d_MO_closeRun_36 (lv_at hl 0 rfl) ?_
        refine lv_iconst (v := 3) hx hb d_MO_closeRun_38 (by decide) ?_
        refine lv_icmp_ge (tgt := 92) hx hb d_MO_closeRun_39 (by decide) (fun _ => ?_) (fun h => absurd h (by decide))
        refine lv_iload hx hb d_MO_closeRun_92 (lv_at hl 1 rfl) ?_
        refine lv_if_eq (tgt := 118) hx hb d_MO_closeRun_94 (by decide) (fun h => absurd h (by decide)) (fun _ => ?_)
        refine lv_aload_n hx hb d_MO_closeRun_97 rfl (lv_at hl 3 rfl) ?_
        refine lv_iconst (v := 4) hx hb d_MO_closeRun_98 (by decide) ?_
        refine lv_aload_n hx hb d_MO_closeRun_99 rfl (lv_at hl 3 rfl) ?_
        refine r_get hx hb hC hP i_MO (44) (by decide) rfl rfl 11 (by decide) l_MO_92 rfl d_MO_closeRun_100 ?_
        rw [show (su (su (su (su S 44 13 (nI q)) 53 0 ((S 53 0) - (S 52 (3 * q)))) 53 1 ((S 53 1) - (S 52 (3 * q + 1)))) 53 2 ((S 53 2) - (S 52 (3 * q + 2)))) 44 11 = S 44 11 from by rw [su_cell _ _ _ (by decide), su_cell _ _ _ (by decide), su_cell _ _ _ (by decide), su_int _ _ _ (by decide)]]
        rw [show S 44 11 = 4 from he]
        refine lv_iconst (v := 4) hx hb d_MO_closeRun_103 (by decide) ?_
        refine lv_icmp_ne (tgt := 114) hx hb d_MO_closeRun_104 (by decide) (fun h => absurd h (by decide)) (fun _ => ?_)
        refine lv_aload_n hx hb d_MO_closeRun_107 rfl (lv_at hl 3 rfl) ?_
        refine r_get hx hb hC hP i_MO (44) (by decide) rfl rfl 12 (by decide) l_MO_95 rfl d_MO_closeRun_108 ?_
        rw [show (su (su (su (su S 44 13 (nI q)) 53 0 ((S 53 0) - (S 52 (3 * q)))) 53 1 ((S 53 1) - (S 52 (3 * q + 1)))) 53 2 ((S 53 2) - (S 52 (3 * q + 2)))) 44 12 = S 44 12 from by rw [su_cell _ _ _ (by decide), su_cell _ _ _ (by decide), su_cell _ _ _ (by decide), su_int _ _ _ (by decide)]]
        refine lv_goto (tgt := 115) hx hb d_MO_closeRun_111 (by decide) ?_
        refine r_v hC hS (r_runV (np := 2) (As := [.int 4, .int (S 44 12)]) (rest := []) hx hb hml hC hP hS (by decide) rfl rfl (m_MO_raise l G (su (su (su (su S 44 13 (nI q)) 53 0 ((S 53 0) - (S 52 (3 * q)))) 53 1 ((S 53 1) - (S 52 (3 * q + 1)))) 53 2 ((S 53 2) - (S 52 (3 * q + 2)))) n (by omega) (by rw [su_cell _ _ _ (by decide), su_cell _ _ _ (by decide), su_cell _ _ _ (by decide), su_int _ _ _ (by decide)]; exact hn) 4 (S 44 12)) l_MO_124 im_MO_raise se_MO_raise in_MO c_MO_raise_in (by decide +kernel) ⟨by simp only [rmF]; omega, by simp only [rmF]; omega⟩ rfl hl.1 (Nat.le_of_ble_eq_true rfl) d_MO_closeRun_115 ⟨Nat.le_refl _, Nat.le_refl _⟩) (fun S_115 H locs hw hP hS => ?_)
        rw [hw] at hP
        refine lv_aload_n hx hb d_MO_closeRun_118 rfl (lv_at hl 3 rfl) ?_
        refine r_get hx hb hC hP i_MO (44) (by decide) rfl rfl 11 (by decide) l_MO_92 rfl d_MO_closeRun_119 ?_
        rw [show (moRaise (su (su (su (su S 44 13 (nI q)) 53 0 ((S 53 0) - (S 52 (3 * q)))) 53 1 ((S 53 1) - (S 52 (3 * q + 1)))) 53 2 ((S 53 2) - (S 52 (3 * q + 2)))) n 4 (S 44 12)) 44 11 = 4 from (moRaise_11 _ _ _ _)]
        refine lv_iconst (v := 4) hx hb d_MO_closeRun_122 (by decide) ?_
        refine lv_icmp_ne (tgt := 132) hx hb d_MO_closeRun_123 (by decide) (fun h => absurd h (by decide)) (fun _ => ?_)
        refine lv_aload_n hx hb d_MO_closeRun_126 rfl (lv_at hl 3 rfl) ?_
        refine lv_iload_n hx hb d_MO_closeRun_127 rfl (lv_at hl 5 rfl) ?_
        refine r_put hx hb hC hP hS i_MO t_MO t_MO_ok n_MO (44) (by decide) rfl rfl 10 (by decide) l_MO_121 rfl rfl rfl (Nat.le_of_ble_eq_true rfl) d_MO_closeRun_128 (fun H locs hP hS => ?_)
        exact e_v hx hb hr hlk hC hP hS d_MO_closeRun_131 (by rw [moOwes, decide_eq_false (Int32.not_lt.mpr c_80), decide_eq_true (Int32.not_le.mp c_80x), decide_eq_true (Int32.not_le.mp c_80xx)] at how; exact absurd how (by decide))
  · refine lv_iconst (v := 1) hx hb d_MO_closeRun_83 (by decide) ?_
    refine lv_istore (lv' := [(4, .int 1), (5, .int 0), (3, .int (S 44 10)), (0, .ref (gA G 44)), (1, .int bk), (2, .int mi)]) hx hb d_MO_closeRun_84 hl (by decide) rfl (fun ls hl => ?_)
    refine lv_iinc (v := 1) (lv' := [(5, .int 1), (4, .int 1), (3, .int (S 44 10)), (0, .ref (gA G 44)), (1, .int bk), (2, .int mi)]) hx hb d_MO_closeRun_86 hl (k := 1) rfl (by decide) (by decide) rfl (fun ls hl => ?_)
    refine lv_goto (tgt := 36) hx hb d_MO_closeRun_89 (by decide) ?_
    refine lv_iload hx hb d_MO_closeRun_36 (lv_at hl 0 rfl) ?_
    refine lv_iconst (v := 3) hx hb d_MO_closeRun_38 (by decide) ?_
    refine lv_icmp_ge (tgt := 92) hx hb d_MO_closeRun_39 (by decide) (fun h => absurd h (by decide)) (fun _ => ?_)
    refine lv_aload_n hx hb d_MO_closeRun_42 rfl (lv_at hl 3 rfl) ?_
    refine r_get hx hb hC hP i_MO (44) (by decide) rfl rfl 15 (by decide) l_MO_38 rfl d_MO_closeRun_43 ?_
    refine lv_iload hx hb d_MO_closeRun_46 (lv_at hl 0 rfl) ?_
    refine lv_dup2_11 hx hb d_MO_closeRun_48 rfl rfl ?_
    refine r_ild hx hb hC hP (53) (by decide) rfl 1 rfl (by decide) (by decide) d_MO_closeRun_49 ?_
    rw [show (su (su S 44 13 (nI q)) 53 0 ((S 53 0) - (S 52 (3 * q)))) 53 1 = S 53 1 from by rw [su_int _ _ _ (by decide), su_cell _ _ _ (by decide)]]
    refine lv_aload_n hx hb d_MO_closeRun_50 rfl (lv_at hl 3 rfl) ?_
    refine r_get hx hb hC hP i_MO (44) (by decide) rfl rfl 14 (by decide) l_MO_35 rfl d_MO_closeRun_51 ?_
    refine lv_iconst (v := 3) hx hb d_MO_closeRun_54 (by decide) ?_
    refine lv_aload_n hx hb d_MO_closeRun_55 rfl (lv_at hl 3 rfl) ?_
    refine r_get hx hb hC hP i_MO (44) (by decide) rfl rfl 13 (by decide) l_MO_111 rfl d_MO_closeRun_56 ?_
    rw [show (su (su S 44 13 (nI q)) 53 0 ((S 53 0) - (S 52 (3 * q)))) 44 13 = nI q from by rw [su_cell _ _ _ (by decide), su_same]]
    refine lv_imul hx hb d_MO_closeRun_59 ?_
    refine lv_iload hx hb d_MO_closeRun_60 (lv_at hl 0 rfl) ?_
    refine lv_iadd hx hb d_MO_closeRun_62 ?_
    rw [show (3 * (nI q)) + 1 = nI (3 * q + 1) from (nI_m3 q 1)]
    refine r_ild hx hb hC hP (52) (by decide) rfl (3 * q + 1) rfl (by omega) (by decide) d_MO_closeRun_63 ?_
    rw [show (su (su S 44 13 (nI q)) 53 0 ((S 53 0) - (S 52 (3 * q)))) 52 (3 * q + 1) = S 52 (3 * q + 1) from by rw [su_cell _ _ _ (by decide), su_cell _ _ _ (by decide)]]
    refine lv_isub hx hb d_MO_closeRun_64 ?_
    refine r_ist hx hb hC hP hS (53) (by decide) (fun _ => rfl) 1 rfl (by decide) (by decide) d_MO_closeRun_65 (fun H locs hP hS => ?_)
    refine lv_aload_n hx hb d_MO_closeRun_66 rfl (lv_at hl 3 rfl) ?_
    refine r_get hx hb hC hP i_MO (44) (by decide) rfl rfl 14 (by decide) l_MO_35 rfl d_MO_closeRun_67 ?_
    refine lv_iconst (v := 3) hx hb d_MO_closeRun_70 (by decide) ?_
    refine lv_aload_n hx hb d_MO_closeRun_71 rfl (lv_at hl 3 rfl) ?_
    refine r_get hx hb hC hP i_MO (44) (by decide) rfl rfl 13 (by decide) l_MO_111 rfl d_MO_closeRun_72 ?_
    rw [show (su (su (su S 44 13 (nI q)) 53 0 ((S 53 0) - (S 52 (3 * q)))) 53 1 ((S 53 1) - (S 52 (3 * q + 1)))) 44 13 = nI q from by rw [su_cell _ _ _ (by decide), su_cell _ _ _ (by decide), su_same]]
    refine lv_imul hx hb d_MO_closeRun_75 ?_
    refine lv_iload hx hb d_MO_closeRun_76 (lv_at hl 0 rfl) ?_
    refine lv_iadd hx hb d_MO_closeRun_78 ?_
    rw [show (3 * (nI q)) + 1 = nI (3 * q + 1) from (nI_m3 q 1)]
    refine r_ild hx hb hC hP (52) (by decide) rfl (3 * q + 1) rfl (by omega) (by decide) d_MO_closeRun_79 ?_
    rw [show (su (su (su S 44 13 (nI q)) 53 0 ((S 53 0) - (S 52 (3 * q)))) 53 1 ((S 53 1) - (S 52 (3 * q + 1)))) 52 (3 * q + 1) = S 52 (3 * q + 1) from by rw [su_cell _ _ _ (by decide), su_cell _ _ _ (by decide), su_cell _ _ _ (by decide)]]
    refine lv_if_le (tgt := 86) hx hb d_MO_closeRun_80 (by decide) (fun c_80x => ?_) (fun c_80x => ?_)
    · refine lv_iinc (v := 2) (lv' := [(5, .int 2), (4, .int 1), (3, .int (S 44 10)), (0, .ref (gA G 44)), (1, .int bk), (2, .int mi)]) hx hb d_MO_closeRun_86 hl (k := 0) rfl (by decide) (by decide) rfl (fun ls hl => ?_)
      refine lv_goto (tgt := 36) hx hb d_MO_closeRun_89 (by decide) ?_
      refine lv_iload hx hb d_MO_closeRun_36 (lv_at hl 0 rfl) ?_
      refine lv_iconst (v := 3) hx hb d_MO_closeRun_38 (by decide) ?_
      refine lv_icmp_ge (tgt := 92) hx hb d_MO_closeRun_39 (by decide) (fun h => absurd h (by decide)) (fun _ => ?_)
      refine lv_aload_n hx hb d_MO_closeRun_42 rfl (lv_at hl 3 rfl) ?_
      refine r_get hx hb hC hP i_MO (44) (by decide) rfl rfl 15 (by decide) l_MO_38 rfl d_MO_closeRun_43 ?_
      refine lv_iload hx hb d_MO_closeRun_46 (lv_at hl 0 rfl) ?_
      refine lv_dup2_11 hx hb d_MO_closeRun_48 rfl rfl ?_
      refine r_ild hx hb hC hP (53) (by decide) rfl 2 rfl (by decide) (by decide) d_MO_closeRun_49 ?_
      rw [show (su (su (su S 44 13 (nI q)) 53 0 ((S 53 0) - (S 52 (3 * q)))) 53 1 ((S 53 1) - (S 52 (3 * q + 1)))) 53 2 = S 53 2 from by rw [su_int _ _ _ (by decide), su_int _ _ _ (by decide), su_cell _ _ _ (by decide)]]
      refine lv_aload_n hx hb d_MO_closeRun_50 rfl (lv_at hl 3 rfl) ?_
      refine r_get hx hb hC hP i_MO (44) (by decide) rfl rfl 14 (by decide) l_MO_35 rfl d_MO_closeRun_51 ?_
      refine lv_iconst (v := 3) hx hb d_MO_closeRun_54 (by decide) ?_
      refine lv_aload_n hx hb d_MO_closeRun_55 rfl (lv_at hl 3 rfl) ?_
      refine r_get hx hb hC hP i_MO (44) (by decide) rfl rfl 13 (by decide) l_MO_111 rfl d_MO_closeRun_56 ?_
      rw [show (su (su (su S 44 13 (nI q)) 53 0 ((S 53 0) - (S 52 (3 * q)))) 53 1 ((S 53 1) - (S 52 (3 * q + 1)))) 44 13 = nI q from by rw [su_cell _ _ _ (by decide), su_cell _ _ _ (by decide), su_same]]
      refine lv_imul hx hb d_MO_closeRun_59 ?_
      refine lv_iload hx hb d_MO_closeRun_60 (lv_at hl 0 rfl) ?_
      refine lv_iadd hx hb d_MO_closeRun_62 ?_
      rw [show (3 * (nI q)) + 2 = nI (3 * q + 2) from (nI_m3 q 2)]
      refine r_ild hx hb hC hP (52) (by decide) rfl (3 * q + 2) rfl (by omega) (by decide) d_MO_closeRun_63 ?_
      rw [show (su (su (su S 44 13 (nI q)) 53 0 ((S 53 0) - (S 52 (3 * q)))) 53 1 ((S 53 1) - (S 52 (3 * q + 1)))) 52 (3 * q + 2) = S 52 (3 * q + 2) from by rw [su_cell _ _ _ (by decide), su_cell _ _ _ (by decide), su_cell _ _ _ (by decide)]]
      refine lv_isub hx hb d_MO_closeRun_64 ?_
      refine r_ist hx hb hC hP hS (53) (by decide) (fun _ => rfl) 2 rfl (by decide) (by decide) d_MO_closeRun_65 (fun H locs hP hS => ?_)
      refine lv_aload_n hx hb d_MO_closeRun_66 rfl (lv_at hl 3 rfl) ?_
      refine r_get hx hb hC hP i_MO (44) (by decide) rfl rfl 14 (by decide) l_MO_35 rfl d_MO_closeRun_67 ?_
      refine lv_iconst (v := 3) hx hb d_MO_closeRun_70 (by decide) ?_
      refine lv_aload_n hx hb d_MO_closeRun_71 rfl (lv_at hl 3 rfl) ?_
      refine r_get hx hb hC hP i_MO (44) (by decide) rfl rfl 13 (by decide) l_MO_111 rfl d_MO_closeRun_72 ?_
      rw [show (su (su (su (su S 44 13 (nI q)) 53 0 ((S 53 0) - (S 52 (3 * q)))) 53 1 ((S 53 1) - (S 52 (3 * q + 1)))) 53 2 ((S 53 2) - (S 52 (3 * q + 2)))) 44 13 = nI q from by rw [su_cell _ _ _ (by decide), su_cell _ _ _ (by decide), su_cell _ _ _ (by decide), su_same]]
      refine lv_imul hx hb d_MO_closeRun_75 ?_
      refine lv_iload hx hb d_MO_closeRun_76 (lv_at hl 0 rfl) ?_
      refine lv_iadd hx hb d_MO_closeRun_78 ?_
      rw [show (3 * (nI q)) + 2 = nI (3 * q + 2) from (nI_m3 q 2)]
      refine r_ild hx hb hC hP (52) (by decide) rfl (3 * q + 2) rfl (by omega) (by decide) d_MO_closeRun_79 ?_
      rw [show (su (su (su (su S 44 13 (nI q)) 53 0 ((S 53 0) - (S 52 (3 * q)))) 53 1 ((S 53 1) - (S 52 (3 * q + 1)))) 53 2 ((S 53 2) - (S 52 (3 * q + 2)))) 52 (3 * q + 2) = S 52 (3 * q + 2) from by rw [su_cell _ _ _ (by decide), su_cell _ _ _ (by decide), su_cell _ _ _ (by decide), su_cell _ _ _ (by decide)]]
      refine lv_if_le (tgt := 86) hx hb d_MO_closeRun_80 (by decide) (fun c_80xx => ?_) (fun c_80xx => ?_)
      · refine lv_iinc (v := 3) (lv' := [(5, .int 3), (4, .int 1), (3, .int (S 44 10)), (0, .ref (gA G 44)), (1, .int bk), (2, .int mi)]) hx hb d_MO_closeRun_86 hl (k := 0) rfl (by decide) (by decide) rfl (fun ls hl => ?_)
        refine lv_goto (tgt := 36) hx hb d_MO_closeRun_89 (by decide) ?_
        refine lv_iload hx hb d_MO_closeRun_36 (lv_at hl 0 rfl) ?_
        refine lv_iconst (v := 3) hx hb d_MO_closeRun_38 (by decide) ?_
        refine lv_icmp_ge (tgt := 92) hx hb d_MO_closeRun_39 (by decide) (fun _ => ?_) (fun h => absurd h (by decide))
        refine lv_iload hx hb d_MO_closeRun_92 (lv_at hl 1 rfl) ?_
        refine lv_if_eq (tgt := 118) hx hb d_MO_closeRun_94 (by decide) (fun h => absurd h (by decide)) (fun _ => ?_)
        refine lv_aload_n hx hb d_MO_closeRun_97 rfl (lv_at hl 3 rfl) ?_
        refine lv_iconst (v := 4) hx hb d_MO_closeRun_98 (by decide) ?_
        refine lv_aload_n hx hb d_MO_closeRun_99 rfl (lv_at hl 3 rfl) ?_
        refine r_get hx hb hC hP i_MO (44) (by decide) rfl rfl 11 (by decide) l_MO_92 rfl d_MO_closeRun_100 ?_
        rw [show (su (su (su (su S 44 13 (nI q)) 53 0 ((S 53 0) - (S 52 (3 * q)))) 53 1 ((S 53 1) - (S 52 (3 * q + 1)))) 53 2 ((S 53 2) - (S 52 (3 * q + 2)))) 44 11 = S 44 11 from by rw [su_cell _ _ _ (by decide), su_cell _ _ _ (by decide), su_cell _ _ _ (by decide), su_int _ _ _ (by decide)]]
        rw [show S 44 11 = 4 from he]
        refine lv_iconst (v := 4) hx hb d_MO_closeRun_103 (by decide) ?_
        refine lv_icmp_ne (tgt := 114) hx hb d_MO_closeRun_104 (by decide) (fun h => absurd h (by decide)) (fun _ => ?_)
        refine lv_aload_n hx hb d_MO_closeRun_107 rfl (lv_at hl 3 rfl) ?_
        refine r_get hx hb hC hP i_MO (44) (by decide) rfl rfl 12 (by decide) l_MO_95 rfl d_MO_closeRun_108 ?_
        rw [show (su (su (su (su S 44 13 (nI q)) 53 0 ((S 53 0) - (S 52 (3 * q)))) 53 1 ((S 53 1) - (S 52 (3 * q + 1)))) 53 2 ((S 53 2) - (S 52 (3 * q + 2)))) 44 12 = S 44 12 from by rw [su_cell _ _ _ (by decide), su_cell _ _ _ (by decide), su_cell _ _ _ (by decide), su_int _ _ _ (by decide)]]
        refine lv_goto (tgt := 115) hx hb d_MO_closeRun_111 (by decide) ?_
        refine r_v hC hS (r_runV (np := 2) (As := [.int 4, .int (S 44 12)]) (rest := []) hx hb hml hC hP hS (by decide) rfl rfl (m_MO_raise l G (su (su (su (su S 44 13 (nI q)) 53 0 ((S 53 0) - (S 52 (3 * q)))) 53 1 ((S 53 1) - (S 52 (3 * q + 1)))) 53 2 ((S 53 2) - (S 52 (3 * q + 2)))) n (by omega) (by rw [su_cell _ _ _ (by decide), su_cell _ _ _ (by decide), su_cell _ _ _ (by decide), su_int _ _ _ (by decide)]; exact hn) 4 (S 44 12)) l_MO_124 im_MO_raise se_MO_raise in_MO c_MO_raise_in (by decide +kernel) ⟨by simp only [rmF]; omega, by simp only [rmF]; omega⟩ rfl hl.1 (Nat.le_of_ble_eq_true rfl) d_MO_closeRun_115 ⟨Nat.le_refl _, Nat.le_refl _⟩) (fun S_115 H locs hw hP hS => ?_)
        rw [hw] at hP
        refine lv_aload_n hx hb d_MO_closeRun_118 rfl (lv_at hl 3 rfl) ?_
        refine r_get hx hb hC hP i_MO (44) (by decide) rfl rfl 11 (by decide) l_MO_92 rfl d_MO_closeRun_119 ?_
        rw [show (moRaise (su (su (su (su S 44 13 (nI q)) 53 0 ((S 53 0) - (S 52 (3 * q)))) 53 1 ((S 53 1) - (S 52 (3 * q + 1)))) 53 2 ((S 53 2) - (S 52 (3 * q + 2)))) n 4 (S 44 12)) 44 11 = 4 from (moRaise_11 _ _ _ _)]
        refine lv_iconst (v := 4) hx hb d_MO_closeRun_122 (by decide) ?_
        refine lv_icmp_ne (tgt := 132) hx hb d_MO_closeRun_123 (by decide) (fun h => absurd h (by decide)) (fun _ => ?_)
        refine lv_aload_n hx hb d_MO_closeRun_126 rfl (lv_at hl 3 rfl) ?_
        refine lv_iload_n hx hb d_MO_closeRun_127 rfl (lv_at hl 5 rfl) ?_
        refine r_put hx hb hC hP hS i_MO t_MO t_MO_ok n_MO (44) (by decide) rfl rfl 10 (by decide) l_MO_121 rfl rfl rfl (Nat.le_of_ble_eq_true rfl) d_MO_closeRun_128 (fun H locs hP hS => ?_)
        exact e_v hx hb hr hlk hC hP hS d_MO_closeRun_131 (by rw [moOwes, decide_eq_true (Int32.not_le.mp c_80), decide_eq_false (Int32.not_lt.mpr c_80x), decide_eq_false (Int32.not_lt.mpr c_80xx)] at how; exact absurd how (by decide))
      · refine lv_iconst (v := 1) hx hb d_MO_closeRun_83 (by decide) ?_
        refine lv_istore (lv' := [(4, .int 1), (5, .int 2), (3, .int (S 44 10)), (0, .ref (gA G 44)), (1, .int bk), (2, .int mi)]) hx hb d_MO_closeRun_84 hl (by decide) rfl (fun ls hl => ?_)
        refine lv_iinc (v := 3) (lv' := [(5, .int 3), (4, .int 1), (3, .int (S 44 10)), (0, .ref (gA G 44)), (1, .int bk), (2, .int mi)]) hx hb d_MO_closeRun_86 hl (k := 1) rfl (by decide) (by decide) rfl (fun ls hl => ?_)
        refine lv_goto (tgt := 36) hx hb d_MO_closeRun_89 (by decide) ?_
        refine lv_iload hx hb d_MO_closeRun_36 (lv_at hl 0 rfl) ?_
        refine lv_iconst (v := 3) hx hb d_MO_closeRun_38 (by decide) ?_
        refine lv_icmp_ge (tgt := 92) hx hb d_MO_closeRun_39 (by decide) (fun _ => ?_) (fun h => absurd h (by decide))
        refine lv_iload hx hb d_MO_closeRun_92 (lv_at hl 1 rfl) ?_
        refine lv_if_eq (tgt := 118) hx hb d_MO_closeRun_94 (by decide) (fun h => absurd h (by decide)) (fun _ => ?_)
        refine lv_aload_n hx hb d_MO_closeRun_97 rfl (lv_at hl 3 rfl) ?_
        refine lv_iconst (v := 4) hx hb d_MO_closeRun_98 (by decide) ?_
        refine lv_aload_n hx hb d_MO_closeRun_99 rfl (lv_at hl 3 rfl) ?_
        refine r_get hx hb hC hP i_MO (44) (by decide) rfl rfl 11 (by decide) l_MO_92 rfl d_MO_closeRun_100 ?_
        rw [show (su (su (su (su S 44 13 (nI q)) 53 0 ((S 53 0) - (S 52 (3 * q)))) 53 1 ((S 53 1) - (S 52 (3 * q + 1)))) 53 2 ((S 53 2) - (S 52 (3 * q + 2)))) 44 11 = S 44 11 from by rw [su_cell _ _ _ (by decide), su_cell _ _ _ (by decide), su_cell _ _ _ (by decide), su_int _ _ _ (by decide)]]
        rw [show S 44 11 = 4 from he]
        refine lv_iconst (v := 4) hx hb d_MO_closeRun_103 (by decide) ?_
        refine lv_icmp_ne (tgt := 114) hx hb d_MO_closeRun_104 (by decide) (fun h => absurd h (by decide)) (fun _ => ?_)
        refine lv_aload_n hx hb d_MO_closeRun_107 rfl (lv_at hl 3 rfl) ?_
        refine r_get hx hb hC hP i_MO (44) (by decide) rfl rfl 12 (by decide) l_MO_95 rfl d_MO_closeRun_108 ?_
        rw [show (su (su (su (su S 44 13 (nI q)) 53 0 ((S 53 0) - (S 52 (3 * q)))) 53 1 ((S 53 1) - (S 52 (3 * q + 1)))) 53 2 ((S 53 2) - (S 52 (3 * q + 2)))) 44 12 = S 44 12 from by rw [su_cell _ _ _ (by decide), su_cell _ _ _ (by decide), su_cell _ _ _ (by decide), su_int _ _ _ (by decide)]]
        refine lv_goto (tgt := 115) hx hb d_MO_closeRun_111 (by decide) ?_
        refine r_v hC hS (r_runV (np := 2) (As := [.int 4, .int (S 44 12)]) (rest := []) hx hb hml hC hP hS (by decide) rfl rfl (m_MO_raise l G (su (su (su (su S 44 13 (nI q)) 53 0 ((S 53 0) - (S 52 (3 * q)))) 53 1 ((S 53 1) - (S 52 (3 * q + 1)))) 53 2 ((S 53 2) - (S 52 (3 * q + 2)))) n (by omega) (by rw [su_cell _ _ _ (by decide), su_cell _ _ _ (by decide), su_cell _ _ _ (by decide), su_int _ _ _ (by decide)]; exact hn) 4 (S 44 12)) l_MO_124 im_MO_raise se_MO_raise in_MO c_MO_raise_in (by decide +kernel) ⟨by simp only [rmF]; omega, by simp only [rmF]; omega⟩ rfl hl.1 (Nat.le_of_ble_eq_true rfl) d_MO_closeRun_115 ⟨Nat.le_refl _, Nat.le_refl _⟩) (fun S_115 H locs hw hP hS => ?_)
        rw [hw] at hP
        refine lv_aload_n hx hb d_MO_closeRun_118 rfl (lv_at hl 3 rfl) ?_
        refine r_get hx hb hC hP i_MO (44) (by decide) rfl rfl 11 (by decide) l_MO_92 rfl d_MO_closeRun_119 ?_
        rw [show (moRaise (su (su (su (su S 44 13 (nI q)) 53 0 ((S 53 0) - (S 52 (3 * q)))) 53 1 ((S 53 1) - (S 52 (3 * q + 1)))) 53 2 ((S 53 2) - (S 52 (3 * q + 2)))) n 4 (S 44 12)) 44 11 = 4 from (moRaise_11 _ _ _ _)]
        refine lv_iconst (v := 4) hx hb d_MO_closeRun_122 (by decide) ?_
        refine lv_icmp_ne (tgt := 132) hx hb d_MO_closeRun_123 (by decide) (fun h => absurd h (by decide)) (fun _ => ?_)
        refine lv_aload_n hx hb d_MO_closeRun_126 rfl (lv_at hl 3 rfl) ?_
        refine lv_iload_n hx hb d_MO_closeRun_127 rfl (lv_at hl 5 rfl) ?_
        refine r_put hx hb hC hP hS i_MO t_MO t_MO_ok n_MO (44) (by decide) rfl rfl 10 (by decide) l_MO_121 rfl rfl rfl (Nat.le_of_ble_eq_true rfl) d_MO_closeRun_128 (fun H locs hP hS => ?_)
        exact e_v hx hb hr hlk hC hP hS d_MO_closeRun_131 (by rw [moOwes, decide_eq_true (Int32.not_le.mp c_80), decide_eq_false (Int32.not_lt.mpr c_80x), decide_eq_true (Int32.not_le.mp c_80xx)] at how; exact absurd how (by decide))
    · refine lv_iconst (v := 1) hx hb d_MO_closeRun_83 (by decide) ?_
      refine lv_istore (lv' := [(4, .int 1), (5, .int 1), (3, .int (S 44 10)), (0, .ref (gA G 44)), (1, .int bk), (2, .int mi)]) hx hb d_MO_closeRun_84 hl (by decide) rfl (fun ls hl => ?_)
      refine lv_iinc (v := 2) (lv' := [(5, .int 2), (4, .int 1), (3, .int (S 44 10)), (0, .ref (gA G 44)), (1, .int bk), (2, .int mi)]) hx hb d_MO_closeRun_86 hl (k := 1) rfl (by decide) (by decide) rfl (fun ls hl => ?_)
      refine lv_goto (tgt := 36) hx hb d_MO_closeRun_89 (by decide) ?_
      refine lv_iload hx hb d_MO_closeRun_36 (lv_at hl 0 rfl) ?_
      refine lv_iconst (v := 3) hx hb d_MO_closeRun_38 (by decide) ?_
      refine lv_icmp_ge (tgt := 92) hx hb d_MO_closeRun_39 (by decide) (fun h => absurd h (by decide)) (fun _ => ?_)
      refine lv_aload_n hx hb d_MO_closeRun_42 rfl (lv_at hl 3 rfl) ?_
      refine r_get hx hb hC hP i_MO (44) (by decide) rfl rfl 15 (by decide) l_MO_38 rfl d_MO_closeRun_43 ?_
      refine lv_iload hx hb d_MO_closeRun_46 (lv_at hl 0 rfl) ?_
      refine lv_dup2_11 hx hb d_MO_closeRun_48 rfl rfl ?_
      refine r_ild hx hb hC hP (53) (by decide) rfl 2 rfl (by decide) (by decide) d_MO_closeRun_49 ?_
      rw [show (su (su (su S 44 13 (nI q)) 53 0 ((S 53 0) - (S 52 (3 * q)))) 53 1 ((S 53 1) - (S 52 (3 * q + 1)))) 53 2 = S 53 2 from by rw [su_int _ _ _ (by decide), su_int _ _ _ (by decide), su_cell _ _ _ (by decide)]]
      refine lv_aload_n hx hb d_MO_closeRun_50 rfl (lv_at hl 3 rfl) ?_
      refine r_get hx hb hC hP i_MO (44) (by decide) rfl rfl 14 (by decide) l_MO_35 rfl d_MO_closeRun_51 ?_
      refine lv_iconst (v := 3) hx hb d_MO_closeRun_54 (by decide) ?_
      refine lv_aload_n hx hb d_MO_closeRun_55 rfl (lv_at hl 3 rfl) ?_
      refine r_get hx hb hC hP i_MO (44) (by decide) rfl rfl 13 (by decide) l_MO_111 rfl d_MO_closeRun_56 ?_
      rw [show (su (su (su S 44 13 (nI q)) 53 0 ((S 53 0) - (S 52 (3 * q)))) 53 1 ((S 53 1) - (S 52 (3 * q + 1)))) 44 13 = nI q from by rw [su_cell _ _ _ (by decide), su_cell _ _ _ (by decide), su_same]]
      refine lv_imul hx hb d_MO_closeRun_59 ?_
      refine lv_iload hx hb d_MO_closeRun_60 (lv_at hl 0 rfl) ?_
      refine lv_iadd hx hb d_MO_closeRun_62 ?_
      rw [show (3 * (nI q)) + 2 = nI (3 * q + 2) from (nI_m3 q 2)]
      refine r_ild hx hb hC hP (52) (by decide) rfl (3 * q + 2) rfl (by omega) (by decide) d_MO_closeRun_63 ?_
      rw [show (su (su (su S 44 13 (nI q)) 53 0 ((S 53 0) - (S 52 (3 * q)))) 53 1 ((S 53 1) - (S 52 (3 * q + 1)))) 52 (3 * q + 2) = S 52 (3 * q + 2) from by rw [su_cell _ _ _ (by decide), su_cell _ _ _ (by decide), su_cell _ _ _ (by decide)]]
      refine lv_isub hx hb d_MO_closeRun_64 ?_
      refine r_ist hx hb hC hP hS (53) (by decide) (fun _ => rfl) 2 rfl (by decide) (by decide) d_MO_closeRun_65 (fun H locs hP hS => ?_)
      refine lv_aload_n hx hb d_MO_closeRun_66 rfl (lv_at hl 3 rfl) ?_
      refine r_get hx hb hC hP i_MO (44) (by decide) rfl rfl 14 (by decide) l_MO_35 rfl d_MO_closeRun_67 ?_
      refine lv_iconst (v := 3) hx hb d_MO_closeRun_70 (by decide) ?_
      refine lv_aload_n hx hb d_MO_closeRun_71 rfl (lv_at hl 3 rfl) ?_
      refine r_get hx hb hC hP i_MO (44) (by decide) rfl rfl 13 (by decide) l_MO_111 rfl d_MO_closeRun_72 ?_
      rw [show (su (su (su (su S 44 13 (nI q)) 53 0 ((S 53 0) - (S 52 (3 * q)))) 53 1 ((S 53 1) - (S 52 (3 * q + 1)))) 53 2 ((S 53 2) - (S 52 (3 * q + 2)))) 44 13 = nI q from by rw [su_cell _ _ _ (by decide), su_cell _ _ _ (by decide), su_cell _ _ _ (by decide), su_same]]
      refine lv_imul hx hb d_MO_closeRun_75 ?_
      refine lv_iload hx hb d_MO_closeRun_76 (lv_at hl 0 rfl) ?_
      refine lv_iadd hx hb d_MO_closeRun_78 ?_
      rw [show (3 * (nI q)) + 2 = nI (3 * q + 2) from (nI_m3 q 2)]
      refine r_ild hx hb hC hP (52) (by decide) rfl (3 * q + 2) rfl (by omega) (by decide) d_MO_closeRun_79 ?_
      rw [show (su (su (su (su S 44 13 (nI q)) 53 0 ((S 53 0) - (S 52 (3 * q)))) 53 1 ((S 53 1) - (S 52 (3 * q + 1)))) 53 2 ((S 53 2) - (S 52 (3 * q + 2)))) 52 (3 * q + 2) = S 52 (3 * q + 2) from by rw [su_cell _ _ _ (by decide), su_cell _ _ _ (by decide), su_cell _ _ _ (by decide), su_cell _ _ _ (by decide)]]
      refine lv_if_le (tgt := 86) hx hb d_MO_closeRun_80 (by decide) (fun c_80xx => ?_) (fun c_80xx => ?_)
      · refine lv_iinc (v := 3) (lv' := [(5, .int 3), (4, .int 1), (3, .int (S 44 10)), (0, .ref (gA G 44)), (1, .int bk), (2, .int mi)]) hx hb d_MO_closeRun_86 hl (k := 0) rfl (by decide) (by decide) rfl (fun ls hl => ?_)
        refine lv_goto (tgt := 36) hx hb d_MO_closeRun_89 (by decide) ?_
        refine lv_iload hx hb d_MO_closeRun_36 (lv_at hl 0 rfl) ?_
        refine lv_iconst (v := 3) hx hb d_MO_closeRun_38 (by decide) ?_
        refine lv_icmp_ge (tgt := 92) hx hb d_MO_closeRun_39 (by decide) (fun _ => ?_) (fun h => absurd h (by decide))
        refine lv_iload hx hb d_MO_closeRun_92 (lv_at hl 1 rfl) ?_
        refine lv_if_eq (tgt := 118) hx hb d_MO_closeRun_94 (by decide) (fun h => absurd h (by decide)) (fun _ => ?_)
        refine lv_aload_n hx hb d_MO_closeRun_97 rfl (lv_at hl 3 rfl) ?_
        refine lv_iconst (v := 4) hx hb d_MO_closeRun_98 (by decide) ?_
        refine lv_aload_n hx hb d_MO_closeRun_99 rfl (lv_at hl 3 rfl) ?_
        refine r_get hx hb hC hP i_MO (44) (by decide) rfl rfl 11 (by decide) l_MO_92 rfl d_MO_closeRun_100 ?_
        rw [show (su (su (su (su S 44 13 (nI q)) 53 0 ((S 53 0) - (S 52 (3 * q)))) 53 1 ((S 53 1) - (S 52 (3 * q + 1)))) 53 2 ((S 53 2) - (S 52 (3 * q + 2)))) 44 11 = S 44 11 from by rw [su_cell _ _ _ (by decide), su_cell _ _ _ (by decide), su_cell _ _ _ (by decide), su_int _ _ _ (by decide)]]
        rw [show S 44 11 = 4 from he]
        refine lv_iconst (v := 4) hx hb d_MO_closeRun_103 (by decide) ?_
        refine lv_icmp_ne (tgt := 114) hx hb d_MO_closeRun_104 (by decide) (fun h => absurd h (by decide)) (fun _ => ?_)
        refine lv_aload_n hx hb d_MO_closeRun_107 rfl (lv_at hl 3 rfl) ?_
        refine r_get hx hb hC hP i_MO (44) (by decide) rfl rfl 12 (by decide) l_MO_95 rfl d_MO_closeRun_108 ?_
        rw [show (su (su (su (su S 44 13 (nI q)) 53 0 ((S 53 0) - (S 52 (3 * q)))) 53 1 ((S 53 1) - (S 52 (3 * q + 1)))) 53 2 ((S 53 2) - (S 52 (3 * q + 2)))) 44 12 = S 44 12 from by rw [su_cell _ _ _ (by decide), su_cell _ _ _ (by decide), su_cell _ _ _ (by decide), su_int _ _ _ (by decide)]]
        refine lv_goto (tgt := 115) hx hb d_MO_closeRun_111 (by decide) ?_
        refine r_v hC hS (r_runV (np := 2) (As := [.int 4, .int (S 44 12)]) (rest := []) hx hb hml hC hP hS (by decide) rfl rfl (m_MO_raise l G (su (su (su (su S 44 13 (nI q)) 53 0 ((S 53 0) - (S 52 (3 * q)))) 53 1 ((S 53 1) - (S 52 (3 * q + 1)))) 53 2 ((S 53 2) - (S 52 (3 * q + 2)))) n (by omega) (by rw [su_cell _ _ _ (by decide), su_cell _ _ _ (by decide), su_cell _ _ _ (by decide), su_int _ _ _ (by decide)]; exact hn) 4 (S 44 12)) l_MO_124 im_MO_raise se_MO_raise in_MO c_MO_raise_in (by decide +kernel) ⟨by simp only [rmF]; omega, by simp only [rmF]; omega⟩ rfl hl.1 (Nat.le_of_ble_eq_true rfl) d_MO_closeRun_115 ⟨Nat.le_refl _, Nat.le_refl _⟩) (fun S_115 H locs hw hP hS => ?_)
        rw [hw] at hP
        refine lv_aload_n hx hb d_MO_closeRun_118 rfl (lv_at hl 3 rfl) ?_
        refine r_get hx hb hC hP i_MO (44) (by decide) rfl rfl 11 (by decide) l_MO_92 rfl d_MO_closeRun_119 ?_
        rw [show (moRaise (su (su (su (su S 44 13 (nI q)) 53 0 ((S 53 0) - (S 52 (3 * q)))) 53 1 ((S 53 1) - (S 52 (3 * q + 1)))) 53 2 ((S 53 2) - (S 52 (3 * q + 2)))) n 4 (S 44 12)) 44 11 = 4 from (moRaise_11 _ _ _ _)]
        refine lv_iconst (v := 4) hx hb d_MO_closeRun_122 (by decide) ?_
        refine lv_icmp_ne (tgt := 132) hx hb d_MO_closeRun_123 (by decide) (fun h => absurd h (by decide)) (fun _ => ?_)
        refine lv_aload_n hx hb d_MO_closeRun_126 rfl (lv_at hl 3 rfl) ?_
        refine lv_iload_n hx hb d_MO_closeRun_127 rfl (lv_at hl 5 rfl) ?_
        refine r_put hx hb hC hP hS i_MO t_MO t_MO_ok n_MO (44) (by decide) rfl rfl 10 (by decide) l_MO_121 rfl rfl rfl (Nat.le_of_ble_eq_true rfl) d_MO_closeRun_128 (fun H locs hP hS => ?_)
        exact e_v hx hb hr hlk hC hP hS d_MO_closeRun_131 (by rw [moOwes, decide_eq_true (Int32.not_le.mp c_80), decide_eq_true (Int32.not_le.mp c_80x), decide_eq_false (Int32.not_lt.mpr c_80xx)] at how; exact absurd how (by decide))
      · refine lv_iconst (v := 1) hx hb d_MO_closeRun_83 (by decide) ?_
        refine lv_istore (lv' := [(4, .int 1), (5, .int 2), (3, .int (S 44 10)), (0, .ref (gA G 44)), (1, .int bk), (2, .int mi)]) hx hb d_MO_closeRun_84 hl (by decide) rfl (fun ls hl => ?_)
        refine lv_iinc (v := 3) (lv' := [(5, .int 3), (4, .int 1), (3, .int (S 44 10)), (0, .ref (gA G 44)), (1, .int bk), (2, .int mi)]) hx hb d_MO_closeRun_86 hl (k := 1) rfl (by decide) (by decide) rfl (fun ls hl => ?_)
        refine lv_goto (tgt := 36) hx hb d_MO_closeRun_89 (by decide) ?_
        refine lv_iload hx hb d_MO_closeRun_36 (lv_at hl 0 rfl) ?_
        refine lv_iconst (v := 3) hx hb d_MO_closeRun_38 (by decide) ?_
        refine lv_icmp_ge (tgt := 92) hx hb d_MO_closeRun_39 (by decide) (fun _ => ?_) (fun h => absurd h (by decide))
        refine lv_iload hx hb d_MO_closeRun_92 (lv_at hl 1 rfl) ?_
        refine lv_if_eq (tgt := 118) hx hb d_MO_closeRun_94 (by decide) (fun h => absurd h (by decide)) (fun _ => ?_)
        refine lv_aload_n hx hb d_MO_closeRun_97 rfl (lv_at hl 3 rfl) ?_
        refine lv_iconst (v := 4) hx hb d_MO_closeRun_98 (by decide) ?_
        refine lv_aload_n hx hb d_MO_closeRun_99 rfl (lv_at hl 3 rfl) ?_
        refine r_get hx hb hC hP i_MO (44) (by decide) rfl rfl 11 (by decide) l_MO_92 rfl d_MO_closeRun_100 ?_
        rw [show (su (su (su (su S 44 13 (nI q)) 53 0 ((S 53 0) - (S 52 (3 * q)))) 53 1 ((S 53 1) - (S 52 (3 * q + 1)))) 53 2 ((S 53 2) - (S 52 (3 * q + 2)))) 44 11 = S 44 11 from by rw [su_cell _ _ _ (by decide), su_cell _ _ _ (by decide), su_cell _ _ _ (by decide), su_int _ _ _ (by decide)]]
        rw [show S 44 11 = 4 from he]
        refine lv_iconst (v := 4) hx hb d_MO_closeRun_103 (by decide) ?_
        refine lv_icmp_ne (tgt := 114) hx hb d_MO_closeRun_104 (by decide) (fun h => absurd h (by decide)) (fun _ => ?_)
        refine lv_aload_n hx hb d_MO_closeRun_107 rfl (lv_at hl 3 rfl) ?_
        refine r_get hx hb hC hP i_MO (44) (by decide) rfl rfl 12 (by decide) l_MO_95 rfl d_MO_closeRun_108 ?_
        rw [show (su (su (su (su S 44 13 (nI q)) 53 0 ((S 53 0) - (S 52 (3 * q)))) 53 1 ((S 53 1) - (S 52 (3 * q + 1)))) 53 2 ((S 53 2) - (S 52 (3 * q + 2)))) 44 12 = S 44 12 from by rw [su_cell _ _ _ (by decide), su_cell _ _ _ (by decide), su_cell _ _ _ (by decide), su_int _ _ _ (by decide)]]
        refine lv_goto (tgt := 115) hx hb d_MO_closeRun_111 (by decide) ?_
        refine r_v hC hS (r_runV (np := 2) (As := [.int 4, .int (S 44 12)]) (rest := []) hx hb hml hC hP hS (by decide) rfl rfl (m_MO_raise l G (su (su (su (su S 44 13 (nI q)) 53 0 ((S 53 0) - (S 52 (3 * q)))) 53 1 ((S 53 1) - (S 52 (3 * q + 1)))) 53 2 ((S 53 2) - (S 52 (3 * q + 2)))) n (by omega) (by rw [su_cell _ _ _ (by decide), su_cell _ _ _ (by decide), su_cell _ _ _ (by decide), su_int _ _ _ (by decide)]; exact hn) 4 (S 44 12)) l_MO_124 im_MO_raise se_MO_raise in_MO c_MO_raise_in (by decide +kernel) ⟨by simp only [rmF]; omega, by simp only [rmF]; omega⟩ rfl hl.1 (Nat.le_of_ble_eq_true rfl) d_MO_closeRun_115 ⟨Nat.le_refl _, Nat.le_refl _⟩) (fun S_115 H locs hw hP hS => ?_)
        rw [hw] at hP
        refine lv_aload_n hx hb d_MO_closeRun_118 rfl (lv_at hl 3 rfl) ?_
        refine r_get hx hb hC hP i_MO (44) (by decide) rfl rfl 11 (by decide) l_MO_92 rfl d_MO_closeRun_119 ?_
        rw [show (moRaise (su (su (su (su S 44 13 (nI q)) 53 0 ((S 53 0) - (S 52 (3 * q)))) 53 1 ((S 53 1) - (S 52 (3 * q + 1)))) 53 2 ((S 53 2) - (S 52 (3 * q + 2)))) n 4 (S 44 12)) 44 11 = 4 from (moRaise_11 _ _ _ _)]
        refine lv_iconst (v := 4) hx hb d_MO_closeRun_122 (by decide) ?_
        refine lv_icmp_ne (tgt := 132) hx hb d_MO_closeRun_123 (by decide) (fun h => absurd h (by decide)) (fun _ => ?_)
        refine lv_aload_n hx hb d_MO_closeRun_126 rfl (lv_at hl 3 rfl) ?_
        refine lv_iload_n hx hb d_MO_closeRun_127 rfl (lv_at hl 5 rfl) ?_
        refine r_put hx hb hC hP hS i_MO t_MO t_MO_ok n_MO (44) (by decide) rfl rfl 10 (by decide) l_MO_121 rfl rfl rfl (Nat.le_of_ble_eq_true rfl) d_MO_closeRun_128 (fun H locs hP hS => ?_)
        exact e_v hx hb hr hlk hC hP hS d_MO_closeRun_131 (by rw [moOwes, decide_eq_true (Int32.not_le.mp c_80), decide_eq_true (Int32.not_le.mp c_80x), decide_eq_true (Int32.not_le.mp c_80xx)] at how; exact absurd how (by decide))

set_option maxHeartbeats 4000000 in
set_option maxRecDepth 100000 in
theorem m_MO_closeRunO3 (l : Launch) (G : WG) (S : SS) (q : Nat) (hq6 : q < 6) (hq : S 44 13 = nI (q + 1)) (bk mi : Int32) (he : S 44 11 = 3) (how : moOwes S q = true) (n : Nat) (hn6 : n < 600) (hn : S 44 18 = nI n) : Cv l y_MO_closeRun b_MO_closeRun 6 2 G [.ref (gA G 44), .int bk, .int mi] S (fun S1 => S1 = su (moRaise (crH S q) n 4 0) 44 10 mi) := by
  refine mk l (by decide +kernel) (Nat.le_of_ble_eq_true rfl) ?_
  intro pp_ ee_ ss_ mm_ be_ me_ co_ ls hx hb hr hlk hml hC hP hS hl
  have hl : lv_has ls 6 [(0, .ref (gA G 44)), (1, .int bk), (2, .int mi)] := hl
  refine lv_aload_n hx hb d_MO_closeRun_0 rfl (lv_at hl 0 rfl) ?_
  refine r_get hx hb hC hP i_MO (44) (by decide) rfl rfl 11 (by decide) l_MO_92 rfl d_MO_closeRun_1 ?_
  rw [show S 44 11 = 3 from he]
  refine lv_iconst (v := 3) hx hb d_MO_closeRun_4 (by decide) ?_
  refine lv_icmp_ne (tgt := 15) hx hb d_MO_closeRun_5 (by decide) (fun h => absurd h (by decide)) (fun _ => ?_)
  refine lv_aload_n hx hb d_MO_closeRun_8 rfl (lv_at hl 0 rfl) ?_
  refine r_get hx hb hC hP i_MO (44) (by decide) rfl rfl 12 (by decide) l_MO_95 rfl d_MO_closeRun_9 ?_
  refine lv_goto (tgt := 19) hx hb d_MO_closeRun_12 (by decide) ?_
  refine lv_istore_n (lv' := [(3, .int (S 44 12)), (0, .ref (gA G 44)), (1, .int bk), (2, .int mi)]) hx hb d_MO_closeRun_19 rfl hl (by decide) rfl (fun ls hl => ?_)
  refine lv_iconst (v := 0) hx hb d_MO_closeRun_20 (by decide) ?_
  refine lv_istore (lv' := [(4, .int 0), (3, .int (S 44 12)), (0, .ref (gA G 44)), (1, .int bk), (2, .int mi)]) hx hb d_MO_closeRun_21 hl (by decide) rfl (fun ls hl => ?_)
  refine lv_aload_n hx hb d_MO_closeRun_23 rfl (lv_at hl 2 rfl) ?_
  refine lv_dup hx hb d_MO_closeRun_24 rfl ?_
  refine r_get hx hb hC hP i_MO (44) (by decide) rfl rfl 13 (by decide) l_MO_111 rfl d_MO_closeRun_25 ?_
  rw [show S 44 13 = nI (q + 1) from hq]
  refine lv_iconst (v := 1) hx hb d_MO_closeRun_28 (by decide) ?_
  refine lv_isub hx hb d_MO_closeRun_29 ?_
  rw [show (nI (q + 1)) - 1 = nI q from nI_pred q]
  refine r_put hx hb hC hP hS i_MO t_MO t_MO_ok n_MO (44) (by decide) rfl rfl 13 (by decide) l_MO_111 rfl rfl rfl (Nat.le_of_ble_eq_true rfl) d_MO_closeRun_30 (fun H locs hP hS => ?_)
  refine lv_iconst (v := 0) hx hb d_MO_closeRun_33 (by decide) ?_
  refine lv_istore (lv' := [(5, .int 0), (4, .int 0), (3, .int (S 44 12)), (0, .ref (gA G 44)), (1, .int bk), (2, .int mi)]) hx hb d_MO_closeRun_34 hl (by decide) rfl (fun ls hl => ?_)
  refine lv_iload hx hb d_MO_closeRun_36 (lv_at hl 0 rfl) ?_
  refine lv_iconst (v := 3) hx hb d_MO_closeRun_38 (by decide) ?_
  refine lv_icmp_ge (tgt := 92) hx hb d_MO_closeRun_39 (by decide) (fun h => absurd h (by decide)) (fun _ => ?_)
  refine lv_aload_n hx hb d_MO_closeRun_42 rfl (lv_at hl 3 rfl) ?_
  refine r_get hx hb hC hP i_MO (44) (by decide) rfl rfl 15 (by decide) l_MO_38 rfl d_MO_closeRun_43 ?_
  refine lv_iload hx hb d_MO_closeRun_46 (lv_at hl 0 rfl) ?_
  refine lv_dup2_11 hx hb d_MO_closeRun_48 rfl rfl ?_
  refine r_ild hx hb hC hP (53) (by decide) rfl 0 rfl (by decide) (by decide) d_MO_closeRun_49 ?_
  rw [show (su S 44 13 (nI q)) 53 0 = S 53 0 from by rw [su_cell _ _ _ (by decide)]]
  refine lv_aload_n hx hb d_MO_closeRun_50 rfl (lv_at hl 3 rfl) ?_
  refine r_get hx hb hC hP i_MO (44) (by decide) rfl rfl 14 (by decide) l_MO_35 rfl d_MO_closeRun_51 ?_
  refine lv_iconst (v := 3) hx hb d_MO_closeRun_54 (by decide) ?_
  refine lv_aload_n hx hb d_MO_closeRun_55 rfl (lv_at hl 3 rfl) ?_
  refine r_get hx hb hC hP i_MO (44) (by decide) rfl rfl 13 (by decide) l_MO_111 rfl d_MO_closeRun_56 ?_
  rw [show (su S 44 13 (nI q)) 44 13 = nI q from by rw [su_same]]
  refine lv_imul hx hb d_MO_closeRun_59 ?_
  refine lv_iload hx hb d_MO_closeRun_60 (lv_at hl 0 rfl) ?_
  refine lv_iadd hx hb d_MO_closeRun_62 ?_
  rw [show (3 * (nI q)) + 0 = nI (3 * q) from (nI_m3 q 0)]
  refine r_ild hx hb hC hP (52) (by decide) rfl (3 * q) rfl (by omega) (by decide) d_MO_closeRun_63 ?_
  rw [show (su S 44 13 (nI q)) 52 (3 * q) = S 52 (3 * q) from by rw [su_cell _ _ _ (by decide)]]
  refine lv_isub hx hb d_MO_closeRun_64 ?_
  refine r_ist hx hb hC hP hS (53) (by decide) (fun _ => rfl) 0 rfl (by decide) (by decide) d_MO_closeRun_65 (fun H locs hP hS => ?_)
  refine lv_aload_n hx hb d_MO_closeRun_66 rfl (lv_at hl 3 rfl) ?_
  refine r_get hx hb hC hP i_MO (44) (by decide) rfl rfl 14 (by decide) l_MO_35 rfl d_MO_closeRun_67 ?_
  refine lv_iconst (v := 3) hx hb d_MO_closeRun_70 (by decide) ?_
  refine lv_aload_n hx hb d_MO_closeRun_71 rfl (lv_at hl 3 rfl) ?_
  refine r_get hx hb hC hP i_MO (44) (by decide) rfl rfl 13 (by decide) l_MO_111 rfl d_MO_closeRun_72 ?_
  rw [show (su (su S 44 13 (nI q)) 53 0 ((S 53 0) - (S 52 (3 * q)))) 44 13 = nI q from by rw [su_cell _ _ _ (by decide), su_same]]
  refine lv_imul hx hb d_MO_closeRun_75 ?_
  refine lv_iload hx hb d_MO_closeRun_76 (lv_at hl 0 rfl) ?_
  refine lv_iadd hx hb d_MO_closeRun_78 ?_
  rw [show (3 * (nI q)) + 0 = nI (3 * q) from (nI_m3 q 0)]
  refine r_ild hx hb hC hP (52) (by decide) rfl (3 * q) rfl (by omega) (by decide) d_MO_closeRun_79 ?_
  rw [show (su (su S 44 13 (nI q)) 53 0 ((S 53 0) - (S 52 (3 * q)))) 52 (3 * q) = S 52 (3 * q) from by rw [su_cell _ _ _ (by decide), su_cell _ _ _ (by decide)]]
  refine lv_if_le (tgt := 86) hx hb d_MO_closeRun_80 (by decide) (fun c_80 => ?_) (fun c_80 => ?_)
  · refine lv_iinc (v := 1) (lv' := [(5, .int 1), (4, .int 0), (3, .int (S 44 12)), (0, .ref (gA G 44)), (1, .int bk), (2, .int mi)]) hx hb d_MO_closeRun_86 hl (k := 0) rfl (by decide) (by decide) rfl (fun ls hl => ?_)
    refine lv_goto (tgt := 36) hx hb d_MO_closeRun_89 (by decide) ?_
    refine lv_iload hx hb d_MO_closeRun_36 (lv_at hl 0 rfl) ?_
    refine lv_iconst (v := 3) hx hb d_MO_closeRun_38 (by decide) ?_
    refine lv_icmp_ge (tgt := 92) hx hb d_MO_closeRun_39 (by decide) (fun h => absurd h (by decide)) (fun _ => ?_)
    refine lv_aload_n hx hb d_MO_closeRun_42 rfl (lv_at hl 3 rfl) ?_
    refine r_get hx hb hC hP i_MO (44) (by decide) rfl rfl 15 (by decide) l_MO_38 rfl d_MO_closeRun_43 ?_
    refine lv_iload hx hb d_MO_closeRun_46 (lv_at hl 0 rfl) ?_
    refine lv_dup2_11 hx hb d_MO_closeRun_48 rfl rfl ?_
    refine r_ild hx hb hC hP (53) (by decide) rfl 1 rfl (by decide) (by decide) d_MO_closeRun_49 ?_
    rw [show (su (su S 44 13 (nI q)) 53 0 ((S 53 0) - (S 52 (3 * q)))) 53 1 = S 53 1 from by rw [su_int _ _ _ (by decide), su_cell _ _ _ (by decide)]]
    refine lv_aload_n hx hb d_MO_closeRun_50 rfl (lv_at hl 3 rfl) ?_
    refine r_get hx hb hC hP i_MO (44) (by decide) rfl rfl 14 (by decide) l_MO_35 rfl d_MO_closeRun_51 ?_
    refine lv_iconst (v := 3) hx hb d_MO_closeRun_54 (by decide) ?_
    refine lv_aload_n hx hb d_MO_closeRun_55 rfl (lv_at hl 3 rfl) ?_
    refine r_get hx hb hC hP i_MO (44) (by decide) rfl rfl 13 (by decide) l_MO_111 rfl d_MO_closeRun_56 ?_
    rw [show (su (su S 44 13 (nI q)) 53 0 ((S 53 0) - (S 52 (3 * q)))) 44 13 = nI q from by rw [su_cell _ _ _ (by decide), su_same]]
    refine lv_imul hx hb d_MO_closeRun_59 ?_
    refine lv_iload hx hb d_MO_closeRun_60 (lv_at hl 0 rfl) ?_
    refine lv_iadd hx hb d_MO_closeRun_62 ?_
    rw [show (3 * (nI q)) + 1 = nI (3 * q + 1) from (nI_m3 q 1)]
    refine r_ild hx hb hC hP (52) (by decide) rfl (3 * q + 1) rfl (by omega) (by decide) d_MO_closeRun_63 ?_
    rw [show (su (su S 44 13 (nI q)) 53 0 ((S 53 0) - (S 52 (3 * q)))) 52 (3 * q + 1) = S 52 (3 * q + 1) from by rw [su_cell _ _ _ (by decide), su_cell _ _ _ (by decide)]]
    refine lv_isub hx hb d_MO_closeRun_64 ?_
    refine r_ist hx hb hC hP hS (53) (by decide) (fun _ => rfl) 1 rfl (by decide) (by decide) d_MO_closeRun_65 (fun H locs hP hS => ?_)
    refine lv_aload_n hx hb d_MO_closeRun_66 rfl (lv_at hl 3 rfl) ?_
    refine r_get hx hb hC hP i_MO (44) (by decide) rfl rfl 14 (by decide) l_MO_35 rfl d_MO_closeRun_67 ?_
    refine lv_iconst (v := 3) hx hb d_MO_closeRun_70 (by decide) ?_
    refine lv_aload_n hx hb d_MO_closeRun_71 rfl (lv_at hl 3 rfl) ?_
    refine r_get hx hb hC hP i_MO (44) (by decide) rfl rfl 13 (by decide) l_MO_111 rfl d_MO_closeRun_72 ?_
    rw [show (su (su (su S 44 13 (nI q)) 53 0 ((S 53 0) - (S 52 (3 * q)))) 53 1 ((S 53 1) - (S 52 (3 * q + 1)))) 44 13 = nI q from by rw [su_cell _ _ _ (by decide), su_cell _ _ _ (by decide), su_same]]
    refine lv_imul hx hb d_MO_closeRun_75 ?_
    refine lv_iload hx hb d_MO_closeRun_76 (lv_at hl 0 rfl) ?_
    refine lv_iadd hx hb d_MO_closeRun_78 ?_
    rw [show (3 * (nI q)) + 1 = nI (3 * q + 1) from (nI_m3 q 1)]
    refine r_ild hx hb hC hP (52) (by decide) rfl (3 * q + 1) rfl (by omega) (by decide) d_MO_closeRun_79 ?_
    rw [show (su (su (su S 44 13 (nI q)) 53 0 ((S 53 0) - (S 52 (3 * q)))) 53 1 ((S 53 1) - (S 52 (3 * q + 1)))) 52 (3 * q + 1) = S 52 (3 * q + 1) from by rw [su_cell _ _ _ (by decide), su_cell _ _ _ (by decide), su_cell _ _ _ (by decide)]]
    refine lv_if_le (tgt := 86) hx hb d_MO_closeRun_80 (by decide) (fun c_80x => ?_) (fun c_80x => ?_)
    · refine lv_iinc (v := 2) (lv' := [(5, .int 2), (4, .int 0), (3, .int (S 44 12)), (0, .ref (gA G 44)), (1, .int bk), (2, .int mi)]) hx hb d_MO_closeRun_86 hl (k := 0) rfl (by decide) (by decide) rfl (fun ls hl => ?_)
      refine lv_goto (tgt := 36) hx hb d_MO_closeRun_89 (by decide) ?_
      refine lv_iload hx hb d_MO_closeRun_36 (lv_at hl 0 rfl) ?_
      refine lv_iconst (v := 3) hx hb d_MO_closeRun_38 (by decide) ?_
      refine lv_icmp_ge (tgt := 92) hx hb d_MO_closeRun_39 (by decide) (fun h => absurd h (by decide)) (fun _ => ?_)
      refine lv_aload_n hx hb d_MO_closeRun_42 rfl (lv_at hl 3 rfl) ?_
      refine r_get hx hb hC hP i_MO (44) (by decide) rfl rfl 15 (by decide) l_MO_38 rfl d_MO_closeRun_43 ?_
      refine lv_iload hx hb d_MO_closeRun_46 (lv_at hl 0 rfl) ?_
      refine lv_dup2_11 hx hb d_MO_closeRun_48 rfl rfl ?_
      refine r_ild hx hb hC hP (53) (by decide) rfl 2 rfl (by decide) (by decide) d_MO_closeRun_49 ?_
      rw [show (su (su (su S 44 13 (nI q)) 53 0 ((S 53 0) - (S 52 (3 * q)))) 53 1 ((S 53 1) - (S 52 (3 * q + 1)))) 53 2 = S 53 2 from by rw [su_int _ _ _ (by decide), su_int _ _ _ (by decide), su_cell _ _ _ (by decide)]]
      refine lv_aload_n hx hb d_MO_closeRun_50 rfl (lv_at hl 3 rfl) ?_
      refine r_get hx hb hC hP i_MO (44) (by decide) rfl rfl 14 (by decide) l_MO_35 rfl d_MO_closeRun_51 ?_
      refine lv_iconst (v := 3) hx hb d_MO_closeRun_54 (by decide) ?_
      refine lv_aload_n hx hb d_MO_closeRun_55 rfl (lv_at hl 3 rfl) ?_
      refine r_get hx hb hC hP i_MO (44) (by decide) rfl rfl 13 (by decide) l_MO_111 rfl d_MO_closeRun_56 ?_
      rw [show (su (su (su S 44 13 (nI q)) 53 0 ((S 53 0) - (S 52 (3 * q)))) 53 1 ((S 53 1) - (S 52 (3 * q + 1)))) 44 13 = nI q from by rw [su_cell _ _ _ (by decide), su_cell _ _ _ (by decide), su_same]]
      refine lv_imul hx hb d_MO_closeRun_59 ?_
      refine lv_iload hx hb d_MO_closeRun_60 (lv_at hl 0 rfl) ?_
      refine lv_iadd hx hb d_MO_closeRun_62 ?_
      rw [show (3 * (nI q)) + 2 = nI (3 * q + 2) from (nI_m3 q 2)]
      refine r_ild hx hb hC hP (52) (by decide) rfl (3 * q + 2) rfl (by omega) (by decide) d_MO_closeRun_63 ?_
      rw [show (su (su (su S 44 13 (nI q)) 53 0 ((S 53 0) - (S 52 (3 * q)))) 53 1 ((S 53 1) - (S 52 (3 * q + 1)))) 52 (3 * q + 2) = S 52 (3 * q + 2) from by rw [su_cell _ _ _ (by decide), su_cell _ _ _ (by decide), su_cell _ _ _ (by decide)]]
      refine lv_isub hx hb d_MO_closeRun_64 ?_
      refine r_ist hx hb hC hP hS (53) (by decide) (fun _ => rfl) 2 rfl (by decide) (by decide) d_MO_closeRun_65 (fun H locs hP hS => ?_)
      refine lv_aload_n hx hb d_MO_closeRun_66 rfl (lv_at hl 3 rfl) ?_
      refine r_get hx hb hC hP i_MO (44) (by decide) rfl rfl 14 (by decide) l_MO_35 rfl d_MO_closeRun_67 ?_
      refine lv_iconst (v := 3) hx hb d_MO_closeRun_70 (by decide) ?_
      refine lv_aload_n hx hb d_MO_closeRun_71 rfl (lv_at hl 3 rfl) ?_
      refine r_get hx hb hC hP i_MO (44) (by decide) rfl rfl 13 (by decide) l_MO_111 rfl d_MO_closeRun_72 ?_
      rw [show (su (su (su (su S 44 13 (nI q)) 53 0 ((S 53 0) - (S 52 (3 * q)))) 53 1 ((S 53 1) - (S 52 (3 * q + 1)))) 53 2 ((S 53 2) - (S 52 (3 * q + 2)))) 44 13 = nI q from by rw [su_cell _ _ _ (by decide), su_cell _ _ _ (by decide), su_cell _ _ _ (by decide), su_same]]
      refine lv_imul hx hb d_MO_closeRun_75 ?_
      refine lv_iload hx hb d_MO_closeRun_76 (lv_at hl 0 rfl) ?_
      refine lv_iadd hx hb d_MO_closeRun_78 ?_
      rw [show (3 * (nI q)) + 2 = nI (3 * q + 2) from (nI_m3 q 2)]
      refine r_ild hx hb hC hP (52) (by decide) rfl (3 * q + 2) rfl (by omega) (by decide) d_MO_closeRun_79 ?_
      rw [show (su (su (su (su S 44 13 (nI q)) 53 0 ((S 53 0) - (S 52 (3 * q)))) 53 1 ((S 53 1) - (S 52 (3 * q + 1)))) 53 2 ((S 53 2) - (S 52 (3 * q + 2)))) 52 (3 * q + 2) = S 52 (3 * q + 2) from by rw [su_cell _ _ _ (by decide), su_cell _ _ _ (by decide), su_cell _ _ _ (by decide), su_cell _ _ _ (by decide)]]
      refine lv_if_le (tgt := 86) hx hb d_MO_closeRun_80 (by decide) (fun c_80xx => ?_) (fun c_80xx => ?_)
      · refine lv_iinc (v := 3) (lv' := [(5, .int 3), (4, .int 0), (3, .int (S 44 12)), (0, .ref (gA G 44)), (1, .int bk), (2, .int mi)]) hx hb d_MO_closeRun_86 hl (k := 0) rfl (by decide) (by decide) rfl (fun ls hl => ?_)
        refine lv_goto (tgt := 36) hx hb d_MO_closeRun_89 (by decide) ?_
        refine lv_iload hx hb d_MO_closeRun_36 (lv_at hl 0 rfl) ?_
        refine lv_iconst (v := 3) hx hb d_MO_closeRun_38 (by decide) ?_
        refine lv_icmp_ge (tgt := 92) hx hb d_MO_closeRun_39 (by decide) (fun _ => ?_) (fun h => absurd h (by decide))
        refine lv_iload hx hb d_MO_closeRun_92 (lv_at hl 1 rfl) ?_
        refine lv_if_eq (tgt := 118) hx hb d_MO_closeRun_94 (by decide) (fun _ => ?_) (fun h => absurd h (by decide))
        refine lv_aload_n hx hb d_MO_closeRun_118 rfl (lv_at hl 3 rfl) ?_
        refine r_get hx hb hC hP i_MO (44) (by decide) rfl rfl 11 (by decide) l_MO_92 rfl d_MO_closeRun_119 ?_
        rw [show (su (su (su (su S 44 13 (nI q)) 53 0 ((S 53 0) - (S 52 (3 * q)))) 53 1 ((S 53 1) - (S 52 (3 * q + 1)))) 53 2 ((S 53 2) - (S 52 (3 * q + 2)))) 44 11 = S 44 11 from by rw [su_cell _ _ _ (by decide), su_cell _ _ _ (by decide), su_cell _ _ _ (by decide), su_int _ _ _ (by decide)]]
        rw [show S 44 11 = 3 from he]
        refine lv_iconst (v := 4) hx hb d_MO_closeRun_122 (by decide) ?_
        refine lv_icmp_ne (tgt := 132) hx hb d_MO_closeRun_123 (by decide) (fun _ => ?_) (fun h => absurd h (by decide))
        refine lv_aload_n hx hb d_MO_closeRun_132 rfl (lv_at hl 3 rfl) ?_
        refine lv_iconst (v := 0) hx hb d_MO_closeRun_133 (by decide) ?_
        refine r_put hx hb hC hP hS i_MO t_MO t_MO_ok n_MO (44) (by decide) rfl rfl 11 (by decide) l_MO_92 rfl rfl rfl (Nat.le_of_ble_eq_true rfl) d_MO_closeRun_134 (fun H locs hP hS => ?_)
        refine lv_aload_n hx hb d_MO_closeRun_137 rfl (lv_at hl 3 rfl) ?_
        refine lv_iload_n hx hb d_MO_closeRun_138 rfl (lv_at hl 2 rfl) ?_
        refine r_put hx hb hC hP hS i_MO t_MO t_MO_ok n_MO (44) (by decide) rfl rfl 10 (by decide) l_MO_121 rfl rfl rfl (Nat.le_of_ble_eq_true rfl) d_MO_closeRun_139 (fun H locs hP hS => ?_)
        refine lv_aload_n hx hb d_MO_closeRun_142 rfl (lv_at hl 3 rfl) ?_
        refine lv_iload_n hx hb d_MO_closeRun_143 rfl (lv_at hl 4 rfl) ?_
        refine r_put hx hb hC hP hS i_MO t_MO t_MO_ok n_MO (44) (by decide) rfl rfl 9 (by decide) l_MO_86 rfl rfl rfl (Nat.le_of_ble_eq_true rfl) d_MO_closeRun_144 (fun H locs hP hS => ?_)
        exact e_v hx hb hr hlk hC hP hS d_MO_closeRun_147 (by rw [moOwes, decide_eq_false (Int32.not_lt.mpr c_80), decide_eq_false (Int32.not_lt.mpr c_80x), decide_eq_false (Int32.not_lt.mpr c_80xx)] at how; exact absurd how (by decide))
      · refine lv_iconst (v := 1) hx hb d_MO_closeRun_83 (by decide) ?_
        refine lv_istore (lv' := [(4, .int 1), (5, .int 2), (3, .int (S 44 12)), (0, .ref (gA G 44)), (1, .int bk), (2, .int mi)]) hx hb d_MO_closeRun_84 hl (by decide) rfl (fun ls hl => ?_)
        refine lv_iinc (v := 3) (lv' := [(5, .int 3), (4, .int 1), (3, .int (S 44 12)), (0, .ref (gA G 44)), (1, .int bk), (2, .int mi)]) hx hb d_MO_closeRun_86 hl (k := 1) rfl (by decide) (by decide) rfl (fun ls hl => ?_)
        refine lv_goto (tgt := 36) hx hb d_MO_closeRun_89 (by decide) ?_
        refine lv_iload hx hb d_MO_closeRun_36 (lv_at hl 0 rfl) ?_
        refine lv_iconst (v := 3) hx hb d_MO_closeRun_38 (by decide) ?_
        refine lv_icmp_ge (tgt := 92) hx hb d_MO_closeRun_39 (by decide) (fun _ => ?_) (fun h => absurd h (by decide))
        refine lv_iload hx hb d_MO_closeRun_92 (lv_at hl 1 rfl) ?_
        refine lv_if_eq (tgt := 118) hx hb d_MO_closeRun_94 (by decide) (fun h => absurd h (by decide)) (fun _ => ?_)
        refine lv_aload_n hx hb d_MO_closeRun_97 rfl (lv_at hl 3 rfl) ?_
        refine lv_iconst (v := 4) hx hb d_MO_closeRun_98 (by decide) ?_
        refine lv_aload_n hx hb d_MO_closeRun_99 rfl (lv_at hl 3 rfl) ?_
        refine r_get hx hb hC hP i_MO (44) (by decide) rfl rfl 11 (by decide) l_MO_92 rfl d_MO_closeRun_100 ?_
        rw [show (su (su (su (su S 44 13 (nI q)) 53 0 ((S 53 0) - (S 52 (3 * q)))) 53 1 ((S 53 1) - (S 52 (3 * q + 1)))) 53 2 ((S 53 2) - (S 52 (3 * q + 2)))) 44 11 = S 44 11 from by rw [su_cell _ _ _ (by decide), su_cell _ _ _ (by decide), su_cell _ _ _ (by decide), su_int _ _ _ (by decide)]]
        rw [show S 44 11 = 3 from he]
        refine lv_iconst (v := 4) hx hb d_MO_closeRun_103 (by decide) ?_
        refine lv_icmp_ne (tgt := 114) hx hb d_MO_closeRun_104 (by decide) (fun _ => ?_) (fun h => absurd h (by decide))
        refine lv_iconst (v := 0) hx hb d_MO_closeRun_114 (by decide) ?_
        refine r_v hC hS (r_runV (np := 2) (As := [.int 4, .int 0]) (rest := []) hx hb hml hC hP hS (by decide) rfl rfl (m_MO_raise l G (su (su (su (su S 44 13 (nI q)) 53 0 ((S 53 0) - (S 52 (3 * q)))) 53 1 ((S 53 1) - (S 52 (3 * q + 1)))) 53 2 ((S 53 2) - (S 52 (3 * q + 2)))) n (by omega) (by rw [su_cell _ _ _ (by decide), su_cell _ _ _ (by decide), su_cell _ _ _ (by decide), su_int _ _ _ (by decide)]; exact hn) 4 0) l_MO_124 im_MO_raise se_MO_raise in_MO c_MO_raise_in (by decide +kernel) ⟨by simp only [rmF]; omega, by simp only [rmF]; omega⟩ rfl hl.1 (Nat.le_of_ble_eq_true rfl) d_MO_closeRun_115 ⟨Nat.le_refl _, Nat.le_refl _⟩) (fun S_115 H locs hw hP hS => ?_)
        rw [hw] at hP
        refine lv_aload_n hx hb d_MO_closeRun_118 rfl (lv_at hl 3 rfl) ?_
        refine r_get hx hb hC hP i_MO (44) (by decide) rfl rfl 11 (by decide) l_MO_92 rfl d_MO_closeRun_119 ?_
        rw [show (moRaise (su (su (su (su S 44 13 (nI q)) 53 0 ((S 53 0) - (S 52 (3 * q)))) 53 1 ((S 53 1) - (S 52 (3 * q + 1)))) 53 2 ((S 53 2) - (S 52 (3 * q + 2)))) n 4 0) 44 11 = 4 from (moRaise_11 _ _ _ _)]
        refine lv_iconst (v := 4) hx hb d_MO_closeRun_122 (by decide) ?_
        refine lv_icmp_ne (tgt := 132) hx hb d_MO_closeRun_123 (by decide) (fun h => absurd h (by decide)) (fun _ => ?_)
        refine lv_aload_n hx hb d_MO_closeRun_126 rfl (lv_at hl 3 rfl) ?_
        refine lv_iload_n hx hb d_MO_closeRun_127 rfl (lv_at hl 5 rfl) ?_
        refine r_put hx hb hC hP hS i_MO t_MO t_MO_ok n_MO (44) (by decide) rfl rfl 10 (by decide) l_MO_121 rfl rfl rfl (Nat.le_of_ble_eq_true rfl) d_MO_closeRun_128 (fun H locs hP hS => ?_)
        exact e_v hx hb hr hlk hC hP hS d_MO_closeRun_131 rfl
    · refine lv_iconst (v := 1) hx hb d_MO_closeRun_83 (by decide) ?_
      refine lv_istore (lv' := [(4, .int 1), (5, .int 1), (3, .int (S 44 12)), (0, .ref (gA G 44)), (1, .int bk), (2, .int mi)]) hx hb d_MO_closeRun_84 hl (by decide) rfl (fun ls hl => ?_)
      refine lv_iinc (v := 2) (lv' := [(5, .int 2), (4, .int 1), (3, .int (S 44 12)), (0, .ref (gA G 44)), (1, .int bk), (2, .int mi)]) hx hb d_MO_closeRun_86 hl (k := 1) rfl (by decide) (by decide) rfl (fun ls hl => ?_)
      refine lv_goto (tgt := 36) hx hb d_MO_closeRun_89 (by decide) ?_
      refine lv_iload hx hb d_MO_closeRun_36 (lv_at hl 0 rfl) ?_
      refine lv_iconst (v := 3) hx hb d_MO_closeRun_38 (by decide) ?_
      refine lv_icmp_ge (tgt := 92) hx hb d_MO_closeRun_39 (by decide) (fun h => absurd h (by decide)) (fun _ => ?_)
      refine lv_aload_n hx hb d_MO_closeRun_42 rfl (lv_at hl 3 rfl) ?_
      refine r_get hx hb hC hP i_MO (44) (by decide) rfl rfl 15 (by decide) l_MO_38 rfl d_MO_closeRun_43 ?_
      refine lv_iload hx hb d_MO_closeRun_46 (lv_at hl 0 rfl) ?_
      refine lv_dup2_11 hx hb d_MO_closeRun_48 rfl rfl ?_
      refine r_ild hx hb hC hP (53) (by decide) rfl 2 rfl (by decide) (by decide) d_MO_closeRun_49 ?_
      rw [show (su (su (su S 44 13 (nI q)) 53 0 ((S 53 0) - (S 52 (3 * q)))) 53 1 ((S 53 1) - (S 52 (3 * q + 1)))) 53 2 = S 53 2 from by rw [su_int _ _ _ (by decide), su_int _ _ _ (by decide), su_cell _ _ _ (by decide)]]
      refine lv_aload_n hx hb d_MO_closeRun_50 rfl (lv_at hl 3 rfl) ?_
      refine r_get hx hb hC hP i_MO (44) (by decide) rfl rfl 14 (by decide) l_MO_35 rfl d_MO_closeRun_51 ?_
      refine lv_iconst (v := 3) hx hb d_MO_closeRun_54 (by decide) ?_
      refine lv_aload_n hx hb d_MO_closeRun_55 rfl (lv_at hl 3 rfl) ?_
      refine r_get hx hb hC hP i_MO (44) (by decide) rfl rfl 13 (by decide) l_MO_111 rfl d_MO_closeRun_56 ?_
      rw [show (su (su (su S 44 13 (nI q)) 53 0 ((S 53 0) - (S 52 (3 * q)))) 53 1 ((S 53 1) - (S 52 (3 * q + 1)))) 44 13 = nI q from by rw [su_cell _ _ _ (by decide), su_cell _ _ _ (by decide), su_same]]
      refine lv_imul hx hb d_MO_closeRun_59 ?_
      refine lv_iload hx hb d_MO_closeRun_60 (lv_at hl 0 rfl) ?_
      refine lv_iadd hx hb d_MO_closeRun_62 ?_
      rw [show (3 * (nI q)) + 2 = nI (3 * q + 2) from (nI_m3 q 2)]
      refine r_ild hx hb hC hP (52) (by decide) rfl (3 * q + 2) rfl (by omega) (by decide) d_MO_closeRun_63 ?_
      rw [show (su (su (su S 44 13 (nI q)) 53 0 ((S 53 0) - (S 52 (3 * q)))) 53 1 ((S 53 1) - (S 52 (3 * q + 1)))) 52 (3 * q + 2) = S 52 (3 * q + 2) from by rw [su_cell _ _ _ (by decide), su_cell _ _ _ (by decide), su_cell _ _ _ (by decide)]]
      refine lv_isub hx hb d_MO_closeRun_64 ?_
      refine r_ist hx hb hC hP hS (53) (by decide) (fun _ => rfl) 2 rfl (by decide) (by decide) d_MO_closeRun_65 (fun H locs hP hS => ?_)
      refine lv_aload_n hx hb d_MO_closeRun_66 rfl (lv_at hl 3 rfl) ?_
      refine r_get hx hb hC hP i_MO (44) (by decide) rfl rfl 14 (by decide) l_MO_35 rfl d_MO_closeRun_67 ?_
      refine lv_iconst (v := 3) hx hb d_MO_closeRun_70 (by decide) ?_
      refine lv_aload_n hx hb d_MO_closeRun_71 rfl (lv_at hl 3 rfl) ?_
      refine r_get hx hb hC hP i_MO (44) (by decide) rfl rfl 13 (by decide) l_MO_111 rfl d_MO_closeRun_72 ?_
      rw [show (su (su (su (su S 44 13 (nI q)) 53 0 ((S 53 0) - (S 52 (3 * q)))) 53 1 ((S 53 1) - (S 52 (3 * q + 1)))) 53 2 ((S 53 2) - (S 52 (3 * q + 2)))) 44 13 = nI q from by rw [su_cell _ _ _ (by decide), su_cell _ _ _ (by decide), su_cell _ _ _ (by decide), su_same]]
      refine lv_imul hx hb d_MO_closeRun_75 ?_
      refine lv_iload hx hb d_MO_closeRun_76 (lv_at hl 0 rfl) ?_
      refine lv_iadd hx hb d_MO_closeRun_78 ?_
      rw [show (3 * (nI q)) + 2 = nI (3 * q + 2) from (nI_m3 q 2)]
      refine r_ild hx hb hC hP (52) (by decide) rfl (3 * q + 2) rfl (by omega) (by decide) d_MO_closeRun_79 ?_
      rw [show (su (su (su (su S 44 13 (nI q)) 53 0 ((S 53 0) - (S 52 (3 * q)))) 53 1 ((S 53 1) - (S 52 (3 * q + 1)))) 53 2 ((S 53 2) - (S 52 (3 * q + 2)))) 52 (3 * q + 2) = S 52 (3 * q + 2) from by rw [su_cell _ _ _ (by decide), su_cell _ _ _ (by decide), su_cell _ _ _ (by decide), su_cell _ _ _ (by decide)]]
      refine lv_if_le (tgt := 86) hx hb d_MO_closeRun_80 (by decide) (fun c_80xx => ?_) (fun c_80xx => ?_)
      · refine lv_iinc (v := 3) (lv' := [(5, .int 3), (4, .int 1), (3, .int (S 44 12)), (0, .ref (gA G 44)), (1, .int bk), (2, .int mi)]) hx hb d_MO_closeRun_86 hl (k := 0) rfl (by decide) (by decide) rfl (fun ls hl => ?_)
        refine lv_goto (tgt := 36) hx hb d_MO_closeRun_89 (by decide) ?_
        refine lv_iload hx hb d_MO_closeRun_36 (lv_at hl 0 rfl) ?_
        refine lv_iconst (v := 3) hx hb d_MO_closeRun_38 (by decide) ?_
        refine lv_icmp_ge (tgt := 92) hx hb d_MO_closeRun_39 (by decide) (fun _ => ?_) (fun h => absurd h (by decide))
        refine lv_iload hx hb d_MO_closeRun_92 (lv_at hl 1 rfl) ?_
        refine lv_if_eq (tgt := 118) hx hb d_MO_closeRun_94 (by decide) (fun h => absurd h (by decide)) (fun _ => ?_)
        refine lv_aload_n hx hb d_MO_closeRun_97 rfl (lv_at hl 3 rfl) ?_
        refine lv_iconst (v := 4) hx hb d_MO_closeRun_98 (by decide) ?_
        refine lv_aload_n hx hb d_MO_closeRun_99 rfl (lv_at hl 3 rfl) ?_
        refine r_get hx hb hC hP i_MO (44) (by decide) rfl rfl 11 (by decide) l_MO_92 rfl d_MO_closeRun_100 ?_
        rw [show (su (su (su (su S 44 13 (nI q)) 53 0 ((S 53 0) - (S 52 (3 * q)))) 53 1 ((S 53 1) - (S 52 (3 * q + 1)))) 53 2 ((S 53 2) - (S 52 (3 * q + 2)))) 44 11 = S 44 11 from by rw [su_cell _ _ _ (by decide), su_cell _ _ _ (by decide), su_cell _ _ _ (by decide), su_int _ _ _ (by decide)]]
        rw [show S 44 11 = 3 from he]
        refine lv_iconst (v := 4) hx hb d_MO_closeRun_103 (by decide) ?_
        refine lv_icmp_ne (tgt := 114) hx hb d_MO_closeRun_104 (by decide) (fun _ => ?_) (fun h => absurd h (by decide))
        refine lv_iconst (v := 0) hx hb d_MO_closeRun_114 (by decide) ?_
        refine r_v hC hS (r_runV (np := 2) (As := [.int 4, .int 0]) (rest := []) hx hb hml hC hP hS (by decide) rfl rfl (m_MO_raise l G (su (su (su (su S 44 13 (nI q)) 53 0 ((S 53 0) - (S 52 (3 * q)))) 53 1 ((S 53 1) - (S 52 (3 * q + 1)))) 53 2 ((S 53 2) - (S 52 (3 * q + 2)))) n (by omega) (by rw [su_cell _ _ _ (by decide), su_cell _ _ _ (by decide), su_cell _ _ _ (by decide), su_int _ _ _ (by decide)]; exact hn) 4 0) l_MO_124 im_MO_raise se_MO_raise in_MO c_MO_raise_in (by decide +kernel) ⟨by simp only [rmF]; omega, by simp only [rmF]; omega⟩ rfl hl.1 (Nat.le_of_ble_eq_true rfl) d_MO_closeRun_115 ⟨Nat.le_refl _, Nat.le_refl _⟩) (fun S_115 H locs hw hP hS => ?_)
        rw [hw] at hP
        refine lv_aload_n hx hb d_MO_closeRun_118 rfl (lv_at hl 3 rfl) ?_
        refine r_get hx hb hC hP i_MO (44) (by decide) rfl rfl 11 (by decide) l_MO_92 rfl d_MO_closeRun_119 ?_
        rw [show (moRaise (su (su (su (su S 44 13 (nI q)) 53 0 ((S 53 0) - (S 52 (3 * q)))) 53 1 ((S 53 1) - (S 52 (3 * q + 1)))) 53 2 ((S 53 2) - (S 52 (3 * q + 2)))) n 4 0) 44 11 = 4 from (moRaise_11 _ _ _ _)]
        refine lv_iconst (v := 4) hx hb d_MO_closeRun_122 (by decide) ?_
        refine lv_icmp_ne (tgt := 132) hx hb d_MO_closeRun_123 (by decide) (fun h => absurd h (by decide)) (fun _ => ?_)
        refine lv_aload_n hx hb d_MO_closeRun_126 rfl (lv_at hl 3 rfl) ?_
        refine lv_iload_n hx hb d_MO_closeRun_127 rfl (lv_at hl 5 rfl) ?_
        refine r_put hx hb hC hP hS i_MO t_MO t_MO_ok n_MO (44) (by decide) rfl rfl 10 (by decide) l_MO_121 rfl rfl rfl (Nat.le_of_ble_eq_true rfl) d_MO_closeRun_128 (fun H locs hP hS => ?_)
        exact e_v hx hb hr hlk hC hP hS d_MO_closeRun_131 rfl
      · refine lv_iconst (v := 1) hx hb d_MO_closeRun_83 (by decide) ?_
        refine lv_istore (lv' := [(4, .int 1), (5, .int 2), (3, .int (S 44 12)), (0, .ref (gA G 44)), (1, .int bk), (2, .int mi)]) hx hb d_MO_closeRun_84 hl (by decide) rfl (fun ls hl => ?_)
        refine lv_iinc (v := 3) (lv' := [(5, .int 3), (4, .int 1), (3, .int (S 44 12)), (0, .ref (gA G 44)), (1, .int bk), (2, .int mi)]) hx hb d_MO_closeRun_86 hl (k := 1) rfl (by decide) (by decide) rfl (fun ls hl => ?_)
        refine lv_goto (tgt := 36) hx hb d_MO_closeRun_89 (by decide) ?_
        refine lv_iload hx hb d_MO_closeRun_36 (lv_at hl 0 rfl) ?_
        refine lv_iconst (v := 3) hx hb d_MO_closeRun_38 (by decide) ?_
        refine lv_icmp_ge (tgt := 92) hx hb d_MO_closeRun_39 (by decide) (fun _ => ?_) (fun h => absurd h (by decide))
        refine lv_iload hx hb d_MO_closeRun_92 (lv_at hl 1 rfl) ?_
        refine lv_if_eq (tgt := 118) hx hb d_MO_closeRun_94 (by decide) (fun h => absurd h (by decide)) (fun _ => ?_)
        refine lv_aload_n hx hb d_MO_closeRun_97 rfl (lv_at hl 3 rfl) ?_
        refine lv_iconst (v := 4) hx hb d_MO_closeRun_98 (by decide) ?_
        refine lv_aload_n hx hb d_MO_closeRun_99 rfl (lv_at hl 3 rfl) ?_
        refine r_get hx hb hC hP i_MO (44) (by decide) rfl rfl 11 (by decide) l_MO_92 rfl d_MO_closeRun_100 ?_
        rw [show (su (su (su (su S 44 13 (nI q)) 53 0 ((S 53 0) - (S 52 (3 * q)))) 53 1 ((S 53 1) - (S 52 (3 * q + 1)))) 53 2 ((S 53 2) - (S 52 (3 * q + 2)))) 44 11 = S 44 11 from by rw [su_cell _ _ _ (by decide), su_cell _ _ _ (by decide), su_cell _ _ _ (by decide), su_int _ _ _ (by decide)]]
        rw [show S 44 11 = 3 from he]
        refine lv_iconst (v := 4) hx hb d_MO_closeRun_103 (by decide) ?_
        refine lv_icmp_ne (tgt := 114) hx hb d_MO_closeRun_104 (by decide) (fun _ => ?_) (fun h => absurd h (by decide))
        refine lv_iconst (v := 0) hx hb d_MO_closeRun_114 (by decide) ?_
        refine r_v hC hS (r_runV (np := 2) (As := [.int 4, .int 0]) (rest := []) hx hb hml hC hP hS (by decide) rfl rfl (m_MO_raise l G (su (su (su (su S 44 13 (nI q)) 53 0 ((S 53 0) - (S 52 (3 * q)))) 53 1 ((S 53 1) - (S 52 (3 * q + 1)))) 53 2 ((S 53 2) - (S 52 (3 * q + 2)))) n (by omega) (by rw [su_cell _ _ _ (by decide), su_cell _ _ _ (by decide), su_cell _ _ _ (by decide), su_int _ _ _ (by decide)]; exact hn) 4 0) l_MO_124 im_MO_raise se_MO_raise in_MO c_MO_raise_in (by decide +kernel) ⟨by simp only [rmF]; omega, by simp only [rmF]; omega⟩ rfl hl.1 (Nat.le_of_ble_eq_true rfl) d_MO_closeRun_115 ⟨Nat.le_refl _, Nat.le_refl _⟩) (fun S_115 H locs hw hP hS => ?_)
        rw [hw] at hP
        refine lv_aload_n hx hb d_MO_closeRun_118 rfl (lv_at hl 3 rfl) ?_
        refine r_get hx hb hC hP i_MO (44) (by decide) rfl rfl 11 (by decide) l_MO_92 rfl d_MO_closeRun_119 ?_
        rw [show (moRaise (su (su (su (su S 44 13 (nI q)) 53 0 ((S 53 0) - (S 52 (3 * q)))) 53 1 ((S 53 1) - (S 52 (3 * q + 1)))) 53 2 ((S 53 2) - (S 52 (3 * q + 2)))) n 4 0) 44 11 = 4 from (moRaise_11 _ _ _ _)]
        refine lv_iconst (v := 4) hx hb d_MO_closeRun_122 (by decide) ?_
        refine lv_icmp_ne (tgt := 132) hx hb d_MO_closeRun_123 (by decide) (fun h => absurd h (by decide)) (fun _ => ?_)
        refine lv_aload_n hx hb d_MO_closeRun_126 rfl (lv_at hl 3 rfl) ?_
        refine lv_iload_n hx hb d_MO_closeRun_127 rfl (lv_at hl 5 rfl) ?_
        refine r_put hx hb hC hP hS i_MO t_MO t_MO_ok n_MO (44) (by decide) rfl rfl 10 (by decide) l_MO_121 rfl rfl rfl (Nat.le_of_ble_eq_true rfl) d_MO_closeRun_128 (fun H locs hP hS => ?_)
        exact e_v hx hb hr hlk hC hP hS d_MO_closeRun_131 rfl
  · refine lv_iconst (v := 1) hx hb d_MO_closeRun_83 (by decide) ?_
    refine lv_istore (lv' := [(4, .int 1), (5, .int 0), (3, .int (S 44 12)), (0, .ref (gA G 44)), (1, .int bk), (2, .int mi)]) hx hb d_MO_closeRun_84 hl (by decide) rfl (fun ls hl => ?_)
    refine lv_iinc (v := 1) (lv' := [(5, .int 1), (4, .int 1), (3, .int (S 44 12)), (0, .ref (gA G 44)), (1, .int bk), (2, .int mi)]) hx hb d_MO_closeRun_86 hl (k := 1) rfl (by decide) (by decide) rfl (fun ls hl => ?_)
    refine lv_goto (tgt := 36) hx hb d_MO_closeRun_89 (by decide) ?_
    refine lv_iload hx hb d_MO_closeRun_36 (lv_at hl 0 rfl) ?_
    refine lv_iconst (v := 3) hx hb d_MO_closeRun_38 (by decide) ?_
    refine lv_icmp_ge (tgt := 92) hx hb d_MO_closeRun_39 (by decide) (fun h => absurd h (by decide)) (fun _ => ?_)
    refine lv_aload_n hx hb d_MO_closeRun_42 rfl (lv_at hl 3 rfl) ?_
    refine r_get hx hb hC hP i_MO (44) (by decide) rfl rfl 15 (by decide) l_MO_38 rfl d_MO_closeRun_43 ?_
    refine lv_iload hx hb d_MO_closeRun_46 (lv_at hl 0 rfl) ?_
    refine lv_dup2_11 hx hb d_MO_closeRun_48 rfl rfl ?_
    refine r_ild hx hb hC hP (53) (by decide) rfl 1 rfl (by decide) (by decide) d_MO_closeRun_49 ?_
    rw [show (su (su S 44 13 (nI q)) 53 0 ((S 53 0) - (S 52 (3 * q)))) 53 1 = S 53 1 from by rw [su_int _ _ _ (by decide), su_cell _ _ _ (by decide)]]
    refine lv_aload_n hx hb d_MO_closeRun_50 rfl (lv_at hl 3 rfl) ?_
    refine r_get hx hb hC hP i_MO (44) (by decide) rfl rfl 14 (by decide) l_MO_35 rfl d_MO_closeRun_51 ?_
    refine lv_iconst (v := 3) hx hb d_MO_closeRun_54 (by decide) ?_
    refine lv_aload_n hx hb d_MO_closeRun_55 rfl (lv_at hl 3 rfl) ?_
    refine r_get hx hb hC hP i_MO (44) (by decide) rfl rfl 13 (by decide) l_MO_111 rfl d_MO_closeRun_56 ?_
    rw [show (su (su S 44 13 (nI q)) 53 0 ((S 53 0) - (S 52 (3 * q)))) 44 13 = nI q from by rw [su_cell _ _ _ (by decide), su_same]]
    refine lv_imul hx hb d_MO_closeRun_59 ?_
    refine lv_iload hx hb d_MO_closeRun_60 (lv_at hl 0 rfl) ?_
    refine lv_iadd hx hb d_MO_closeRun_62 ?_
    rw [show (3 * (nI q)) + 1 = nI (3 * q + 1) from (nI_m3 q 1)]
    refine r_ild hx hb hC hP (52) (by decide) rfl (3 * q + 1) rfl (by omega) (by decide) d_MO_closeRun_63 ?_
    rw [show (su (su S 44 13 (nI q)) 53 0 ((S 53 0) - (S 52 (3 * q)))) 52 (3 * q + 1) = S 52 (3 * q + 1) from by rw [su_cell _ _ _ (by decide), su_cell _ _ _ (by decide)]]
    refine lv_isub hx hb d_MO_closeRun_64 ?_
    refine r_ist hx hb hC hP hS (53) (by decide) (fun _ => rfl) 1 rfl (by decide) (by decide) d_MO_closeRun_65 (fun H locs hP hS => ?_)
    refine lv_aload_n hx hb d_MO_closeRun_66 rfl (lv_at hl 3 rfl) ?_
    refine r_get hx hb hC hP i_MO (44) (by decide) rfl rfl 14 (by decide) l_MO_35 rfl d_MO_closeRun_67 ?_
    refine lv_iconst (v := 3) hx hb d_MO_closeRun_70 (by decide) ?_
    refine lv_aload_n hx hb d_MO_closeRun_71 rfl (lv_at hl 3 rfl) ?_
    refine r_get hx hb hC hP i_MO (44) (by decide) rfl rfl 13 (by decide) l_MO_111 rfl d_MO_closeRun_72 ?_
    rw [show (su (su (su S 44 13 (nI q)) 53 0 ((S 53 0) - (S 52 (3 * q)))) 53 1 ((S 53 1) - (S 52 (3 * q + 1)))) 44 13 = nI q from by rw [su_cell _ _ _ (by decide), su_cell _ _ _ (by decide), su_same]]
    refine lv_imul hx hb d_MO_closeRun_75 ?_
    refine lv_iload hx hb d_MO_closeRun_76 (lv_at hl 0 rfl) ?_
    refine lv_iadd hx hb d_MO_closeRun_78 ?_
    rw [show (3 * (nI q)) + 1 = nI (3 * q + 1) from (nI_m3 q 1)]
    refine r_ild hx hb hC hP (52) (by decide) rfl (3 * q + 1) rfl (by omega) (by decide) d_MO_closeRun_79 ?_
    rw [show (su (su (su S 44 13 (nI q)) 53 0 ((S 53 0) - (S 52 (3 * q)))) 53 1 ((S 53 1) - (S 52 (3 * q + 1)))) 52 (3 * q + 1) = S 52 (3 * q + 1) from by rw [su_cell _ _ _ (by decide), su_cell _ _ _ (by decide), su_cell _ _ _ (by decide)]]
    refine lv_if_le (tgt := 86) hx hb d_MO_closeRun_80 (by decide) (fun c_80x => ?_) (fun c_80x => ?_)
    · refine lv_iinc (v := 2) (lv' := [(5, .int 2), (4, .int 1), (3, .int (S 44 12)), (0, .ref (gA G 44)), (1, .int bk), (2, .int mi)]) hx hb d_MO_closeRun_86 hl (k := 0) rfl (by decide) (by decide) rfl (fun ls hl => ?_)
      refine lv_goto (tgt := 36) hx hb d_MO_closeRun_89 (by decide) ?_
      refine lv_iload hx hb d_MO_closeRun_36 (lv_at hl 0 rfl) ?_
      refine lv_iconst (v := 3) hx hb d_MO_closeRun_38 (by decide) ?_
      refine lv_icmp_ge (tgt := 92) hx hb d_MO_closeRun_39 (by decide) (fun h => absurd h (by decide)) (fun _ => ?_)
      refine lv_aload_n hx hb d_MO_closeRun_42 rfl (lv_at hl 3 rfl) ?_
      refine r_get hx hb hC hP i_MO (44) (by decide) rfl rfl 15 (by decide) l_MO_38 rfl d_MO_closeRun_43 ?_
      refine lv_iload hx hb d_MO_closeRun_46 (lv_at hl 0 rfl) ?_
      refine lv_dup2_11 hx hb d_MO_closeRun_48 rfl rfl ?_
      refine r_ild hx hb hC hP (53) (by decide) rfl 2 rfl (by decide) (by decide) d_MO_closeRun_49 ?_
      rw [show (su (su (su S 44 13 (nI q)) 53 0 ((S 53 0) - (S 52 (3 * q)))) 53 1 ((S 53 1) - (S 52 (3 * q + 1)))) 53 2 = S 53 2 from by rw [su_int _ _ _ (by decide), su_int _ _ _ (by decide), su_cell _ _ _ (by decide)]]
      refine lv_aload_n hx hb d_MO_closeRun_50 rfl (lv_at hl 3 rfl) ?_
      refine r_get hx hb hC hP i_MO (44) (by decide) rfl rfl 14 (by decide) l_MO_35 rfl d_MO_closeRun_51 ?_
      refine lv_iconst (v := 3) hx hb d_MO_closeRun_54 (by decide) ?_
      refine lv_aload_n hx hb d_MO_closeRun_55 rfl (lv_at hl 3 rfl) ?_
      refine r_get hx hb hC hP i_MO (44) (by decide) rfl rfl 13 (by decide) l_MO_111 rfl d_MO_closeRun_56 ?_
      rw [show (su (su (su S 44 13 (nI q)) 53 0 ((S 53 0) - (S 52 (3 * q)))) 53 1 ((S 53 1) - (S 52 (3 * q + 1)))) 44 13 = nI q from by rw [su_cell _ _ _ (by decide), su_cell _ _ _ (by decide), su_same]]
      refine lv_imul hx hb d_MO_closeRun_59 ?_
      refine lv_iload hx hb d_MO_closeRun_60 (lv_at hl 0 rfl) ?_
      refine lv_iadd hx hb d_MO_closeRun_62 ?_
      rw [show (3 * (nI q)) + 2 = nI (3 * q + 2) from (nI_m3 q 2)]
      refine r_ild hx hb hC hP (52) (by decide) rfl (3 * q + 2) rfl (by omega) (by decide) d_MO_closeRun_63 ?_
      rw [show (su (su (su S 44 13 (nI q)) 53 0 ((S 53 0) - (S 52 (3 * q)))) 53 1 ((S 53 1) - (S 52 (3 * q + 1)))) 52 (3 * q + 2) = S 52 (3 * q + 2) from by rw [su_cell _ _ _ (by decide), su_cell _ _ _ (by decide), su_cell _ _ _ (by decide)]]
      refine lv_isub hx hb d_MO_closeRun_64 ?_
      refine r_ist hx hb hC hP hS (53) (by decide) (fun _ => rfl) 2 rfl (by decide) (by decide) d_MO_closeRun_65 (fun H locs hP hS => ?_)
      refine lv_aload_n hx hb d_MO_closeRun_66 rfl (lv_at hl 3 rfl) ?_
      refine r_get hx hb hC hP i_MO (44) (by decide) rfl rfl 14 (by decide) l_MO_35 rfl d_MO_closeRun_67 ?_
      refine lv_iconst (v := 3) hx hb d_MO_closeRun_70 (by decide) ?_
      refine lv_aload_n hx hb d_MO_closeRun_71 rfl (lv_at hl 3 rfl) ?_
      refine r_get hx hb hC hP i_MO (44) (by decide) rfl rfl 13 (by decide) l_MO_111 rfl d_MO_closeRun_72 ?_
      rw [show (su (su (su (su S 44 13 (nI q)) 53 0 ((S 53 0) - (S 52 (3 * q)))) 53 1 ((S 53 1) - (S 52 (3 * q + 1)))) 53 2 ((S 53 2) - (S 52 (3 * q + 2)))) 44 13 = nI q from by rw [su_cell _ _ _ (by decide), su_cell _ _ _ (by decide), su_cell _ _ _ (by decide), su_same]]
      refine lv_imul hx hb d_MO_closeRun_75 ?_
      refine lv_iload hx hb d_MO_closeRun_76 (lv_at hl 0 rfl) ?_
      refine lv_iadd hx hb d_MO_closeRun_78 ?_
      rw [show (3 * (nI q)) + 2 = nI (3 * q + 2) from (nI_m3 q 2)]
      refine r_ild hx hb hC hP (52) (by decide) rfl (3 * q + 2) rfl (by omega) (by decide) d_MO_closeRun_79 ?_
      rw [show (su (su (su (su S 44 13 (nI q)) 53 0 ((S 53 0) - (S 52 (3 * q)))) 53 1 ((S 53 1) - (S 52 (3 * q + 1)))) 53 2 ((S 53 2) - (S 52 (3 * q + 2)))) 52 (3 * q + 2) = S 52 (3 * q + 2) from by rw [su_cell _ _ _ (by decide), su_cell _ _ _ (by decide), su_cell _ _ _ (by decide), su_cell _ _ _ (by decide)]]
      refine lv_if_le (tgt := 86) hx hb d_MO_closeRun_80 (by decide) (fun c_80xx => ?_) (fun c_80xx => ?_)
      · refine lv_iinc (v := 3) (lv' := [(5, .int 3), (4, .int 1), (3, .int (S 44 12)), (0, .ref (gA G 44)), (1, .int bk), (2, .int mi)]) hx hb d_MO_closeRun_86 hl (k := 0) rfl (by decide) (by decide) rfl (fun ls hl => ?_)
        refine lv_goto (tgt := 36) hx hb d_MO_closeRun_89 (by decide) ?_
        refine lv_iload hx hb d_MO_closeRun_36 (lv_at hl 0 rfl) ?_
        refine lv_iconst (v := 3) hx hb d_MO_closeRun_38 (by decide) ?_
        refine lv_icmp_ge (tgt := 92) hx hb d_MO_closeRun_39 (by decide) (fun _ => ?_) (fun h => absurd h (by decide))
        refine lv_iload hx hb d_MO_closeRun_92 (lv_at hl 1 rfl) ?_
        refine lv_if_eq (tgt := 118) hx hb d_MO_closeRun_94 (by decide) (fun h => absurd h (by decide)) (fun _ => ?_)
        refine lv_aload_n hx hb d_MO_closeRun_97 rfl (lv_at hl 3 rfl) ?_
        refine lv_iconst (v := 4) hx hb d_MO_closeRun_98 (by decide) ?_
        refine lv_aload_n hx hb d_MO_closeRun_99 rfl (lv_at hl 3 rfl) ?_
        refine r_get hx hb hC hP i_MO (44) (by decide) rfl rfl 11 (by decide) l_MO_92 rfl d_MO_closeRun_100 ?_
        rw [show (su (su (su (su S 44 13 (nI q)) 53 0 ((S 53 0) - (S 52 (3 * q)))) 53 1 ((S 53 1) - (S 52 (3 * q + 1)))) 53 2 ((S 53 2) - (S 52 (3 * q + 2)))) 44 11 = S 44 11 from by rw [su_cell _ _ _ (by decide), su_cell _ _ _ (by decide), su_cell _ _ _ (by decide), su_int _ _ _ (by decide)]]
        rw [show S 44 11 = 3 from he]
        refine lv_iconst (v := 4) hx hb d_MO_closeRun_103 (by decide) ?_
        refine lv_icmp_ne (tgt := 114) hx hb d_MO_closeRun_104 (by decide) (fun _ => ?_) (fun h => absurd h (by decide))
        refine lv_iconst (v := 0) hx hb d_MO_closeRun_114 (by decide) ?_
        refine r_v hC hS (r_runV (np := 2) (As := [.int 4, .int 0]) (rest := []) hx hb hml hC hP hS (by decide) rfl rfl (m_MO_raise l G (su (su (su (su S 44 13 (nI q)) 53 0 ((S 53 0) - (S 52 (3 * q)))) 53 1 ((S 53 1) - (S 52 (3 * q + 1)))) 53 2 ((S 53 2) - (S 52 (3 * q + 2)))) n (by omega) (by rw [su_cell _ _ _ (by decide), su_cell _ _ _ (by decide), su_cell _ _ _ (by decide), su_int _ _ _ (by decide)]; exact hn) 4 0) l_MO_124 im_MO_raise se_MO_raise in_MO c_MO_raise_in (by decide +kernel) ⟨by simp only [rmF]; omega, by simp only [rmF]; omega⟩ rfl hl.1 (Nat.le_of_ble_eq_true rfl) d_MO_closeRun_115 ⟨Nat.le_refl _, Nat.le_refl _⟩) (fun S_115 H locs hw hP hS => ?_)
        rw [hw] at hP
        refine lv_aload_n hx hb d_MO_closeRun_118 rfl (lv_at hl 3 rfl) ?_
        refine r_get hx hb hC hP i_MO (44) (by decide) rfl rfl 11 (by decide) l_MO_92 rfl d_MO_closeRun_119 ?_
        rw [show (moRaise (su (su (su (su S 44 13 (nI q)) 53 0 ((S 53 0) - (S 52 (3 * q)))) 53 1 ((S 53 1) - (S 52 (3 * q + 1)))) 53 2 ((S 53 2) - (S 52 (3 * q + 2)))) n 4 0) 44 11 = 4 from (moRaise_11 _ _ _ _)]
        refine lv_iconst (v := 4) hx hb d_MO_closeRun_122 (by decide) ?_
        refine lv_icmp_ne (tgt := 132) hx hb d_MO_closeRun_123 (by decide) (fun h => absurd h (by decide)) (fun _ => ?_)
        refine lv_aload_n hx hb d_MO_closeRun_126 rfl (lv_at hl 3 rfl) ?_
        refine lv_iload_n hx hb d_MO_closeRun_127 rfl (lv_at hl 5 rfl) ?_
        refine r_put hx hb hC hP hS i_MO t_MO t_MO_ok n_MO (44) (by decide) rfl rfl 10 (by decide) l_MO_121 rfl rfl rfl (Nat.le_of_ble_eq_true rfl) d_MO_closeRun_128 (fun H locs hP hS => ?_)
        exact e_v hx hb hr hlk hC hP hS d_MO_closeRun_131 rfl
      · refine lv_iconst (v := 1) hx hb d_MO_closeRun_83 (by decide) ?_
        refine lv_istore (lv' := [(4, .int 1), (5, .int 2), (3, .int (S 44 12)), (0, .ref (gA G 44)), (1, .int bk), (2, .int mi)]) hx hb d_MO_closeRun_84 hl (by decide) rfl (fun ls hl => ?_)
        refine lv_iinc (v := 3) (lv' := [(5, .int 3), (4, .int 1), (3, .int (S 44 12)), (0, .ref (gA G 44)), (1, .int bk), (2, .int mi)]) hx hb d_MO_closeRun_86 hl (k := 1) rfl (by decide) (by decide) rfl (fun ls hl => ?_)
        refine lv_goto (tgt := 36) hx hb d_MO_closeRun_89 (by decide) ?_
        refine lv_iload hx hb d_MO_closeRun_36 (lv_at hl 0 rfl) ?_
        refine lv_iconst (v := 3) hx hb d_MO_closeRun_38 (by decide) ?_
        refine lv_icmp_ge (tgt := 92) hx hb d_MO_closeRun_39 (by decide) (fun _ => ?_) (fun h => absurd h (by decide))
        refine lv_iload hx hb d_MO_closeRun_92 (lv_at hl 1 rfl) ?_
        refine lv_if_eq (tgt := 118) hx hb d_MO_closeRun_94 (by decide) (fun h => absurd h (by decide)) (fun _ => ?_)
        refine lv_aload_n hx hb d_MO_closeRun_97 rfl (lv_at hl 3 rfl) ?_
        refine lv_iconst (v := 4) hx hb d_MO_closeRun_98 (by decide) ?_
        refine lv_aload_n hx hb d_MO_closeRun_99 rfl (lv_at hl 3 rfl) ?_
        refine r_get hx hb hC hP i_MO (44) (by decide) rfl rfl 11 (by decide) l_MO_92 rfl d_MO_closeRun_100 ?_
        rw [show (su (su (su (su S 44 13 (nI q)) 53 0 ((S 53 0) - (S 52 (3 * q)))) 53 1 ((S 53 1) - (S 52 (3 * q + 1)))) 53 2 ((S 53 2) - (S 52 (3 * q + 2)))) 44 11 = S 44 11 from by rw [su_cell _ _ _ (by decide), su_cell _ _ _ (by decide), su_cell _ _ _ (by decide), su_int _ _ _ (by decide)]]
        rw [show S 44 11 = 3 from he]
        refine lv_iconst (v := 4) hx hb d_MO_closeRun_103 (by decide) ?_
        refine lv_icmp_ne (tgt := 114) hx hb d_MO_closeRun_104 (by decide) (fun _ => ?_) (fun h => absurd h (by decide))
        refine lv_iconst (v := 0) hx hb d_MO_closeRun_114 (by decide) ?_
        refine r_v hC hS (r_runV (np := 2) (As := [.int 4, .int 0]) (rest := []) hx hb hml hC hP hS (by decide) rfl rfl (m_MO_raise l G (su (su (su (su S 44 13 (nI q)) 53 0 ((S 53 0) - (S 52 (3 * q)))) 53 1 ((S 53 1) - (S 52 (3 * q + 1)))) 53 2 ((S 53 2) - (S 52 (3 * q + 2)))) n (by omega) (by rw [su_cell _ _ _ (by decide), su_cell _ _ _ (by decide), su_cell _ _ _ (by decide), su_int _ _ _ (by decide)]; exact hn) 4 0) l_MO_124 im_MO_raise se_MO_raise in_MO c_MO_raise_in (by decide +kernel) ⟨by simp only [rmF]; omega, by simp only [rmF]; omega⟩ rfl hl.1 (Nat.le_of_ble_eq_true rfl) d_MO_closeRun_115 ⟨Nat.le_refl _, Nat.le_refl _⟩) (fun S_115 H locs hw hP hS => ?_)
        rw [hw] at hP
        refine lv_aload_n hx hb d_MO_closeRun_118 rfl (lv_at hl 3 rfl) ?_
        refine r_get hx hb hC hP i_MO (44) (by decide) rfl rfl 11 (by decide) l_MO_92 rfl d_MO_closeRun_119 ?_
        rw [show (moRaise (su (su (su (su S 44 13 (nI q)) 53 0 ((S 53 0) - (S 52 (3 * q)))) 53 1 ((S 53 1) - (S 52 (3 * q + 1)))) 53 2 ((S 53 2) - (S 52 (3 * q + 2)))) n 4 0) 44 11 = 4 from (moRaise_11 _ _ _ _)]
        refine lv_iconst (v := 4) hx hb d_MO_closeRun_122 (by decide) ?_
        refine lv_icmp_ne (tgt := 132) hx hb d_MO_closeRun_123 (by decide) (fun h => absurd h (by decide)) (fun _ => ?_)
        refine lv_aload_n hx hb d_MO_closeRun_126 rfl (lv_at hl 3 rfl) ?_
        refine lv_iload_n hx hb d_MO_closeRun_127 rfl (lv_at hl 5 rfl) ?_
        refine r_put hx hb hC hP hS i_MO t_MO t_MO_ok n_MO (44) (by decide) rfl rfl 10 (by decide) l_MO_121 rfl rfl rfl (Nat.le_of_ble_eq_true rfl) d_MO_closeRun_128 (fun H locs hP hS => ?_)
        exact e_v hx hb hr hlk hC hP hS d_MO_closeRun_131 rfl
    · refine lv_iconst (v := 1) hx hb d_MO_closeRun_83 (by decide) ?_
      refine lv_istore (lv' := [(4, .int 1), (5, .int 1), (3, .int (S 44 12)), (0, .ref (gA G 44)), (1, .int bk), (2, .int mi)]) hx hb d_MO_closeRun_84 hl (by decide) rfl (fun ls hl => ?_)
      refine lv_iinc (v := 2) (lv' := [(5, .int 2), (4, .int 1), (3, .int (S 44 12)), (0, .ref (gA G 44)), (1, .int bk), (2, .int mi)]) hx hb d_MO_closeRun_86 hl (k := 1) rfl (by decide) (by decide) rfl (fun ls hl => ?_)
      refine lv_goto (tgt := 36) hx hb d_MO_closeRun_89 (by decide) ?_
      refine lv_iload hx hb d_MO_closeRun_36 (lv_at hl 0 rfl) ?_
      refine lv_iconst (v := 3) hx hb d_MO_closeRun_38 (by decide) ?_
      refine lv_icmp_ge (tgt := 92) hx hb d_MO_closeRun_39 (by decide) (fun h => absurd h (by decide)) (fun _ => ?_)
      refine lv_aload_n hx hb d_MO_closeRun_42 rfl (lv_at hl 3 rfl) ?_
      refine r_get hx hb hC hP i_MO (44) (by decide) rfl rfl 15 (by decide) l_MO_38 rfl d_MO_closeRun_43 ?_
      refine lv_iload hx hb d_MO_closeRun_46 (lv_at hl 0 rfl) ?_
      refine lv_dup2_11 hx hb d_MO_closeRun_48 rfl rfl ?_
      refine r_ild hx hb hC hP (53) (by decide) rfl 2 rfl (by decide) (by decide) d_MO_closeRun_49 ?_
      rw [show (su (su (su S 44 13 (nI q)) 53 0 ((S 53 0) - (S 52 (3 * q)))) 53 1 ((S 53 1) - (S 52 (3 * q + 1)))) 53 2 = S 53 2 from by rw [su_int _ _ _ (by decide), su_int _ _ _ (by decide), su_cell _ _ _ (by decide)]]
      refine lv_aload_n hx hb d_MO_closeRun_50 rfl (lv_at hl 3 rfl) ?_
      refine r_get hx hb hC hP i_MO (44) (by decide) rfl rfl 14 (by decide) l_MO_35 rfl d_MO_closeRun_51 ?_
      refine lv_iconst (v := 3) hx hb d_MO_closeRun_54 (by decide) ?_
      refine lv_aload_n hx hb d_MO_closeRun_55 rfl (lv_at hl 3 rfl) ?_
      refine r_get hx hb hC hP i_MO (44) (by decide) rfl rfl 13 (by decide) l_MO_111 rfl d_MO_closeRun_56 ?_
      rw [show (su (su (su S 44 13 (nI q)) 53 0 ((S 53 0) - (S 52 (3 * q)))) 53 1 ((S 53 1) - (S 52 (3 * q + 1)))) 44 13 = nI q from by rw [su_cell _ _ _ (by decide), su_cell _ _ _ (by decide), su_same]]
      refine lv_imul hx hb d_MO_closeRun_59 ?_
      refine lv_iload hx hb d_MO_closeRun_60 (lv_at hl 0 rfl) ?_
      refine lv_iadd hx hb d_MO_closeRun_62 ?_
      rw [show (3 * (nI q)) + 2 = nI (3 * q + 2) from (nI_m3 q 2)]
      refine r_ild hx hb hC hP (52) (by decide) rfl (3 * q + 2) rfl (by omega) (by decide) d_MO_closeRun_63 ?_
      rw [show (su (su (su S 44 13 (nI q)) 53 0 ((S 53 0) - (S 52 (3 * q)))) 53 1 ((S 53 1) - (S 52 (3 * q + 1)))) 52 (3 * q + 2) = S 52 (3 * q + 2) from by rw [su_cell _ _ _ (by decide), su_cell _ _ _ (by decide), su_cell _ _ _ (by decide)]]
      refine lv_isub hx hb d_MO_closeRun_64 ?_
      refine r_ist hx hb hC hP hS (53) (by decide) (fun _ => rfl) 2 rfl (by decide) (by decide) d_MO_closeRun_65 (fun H locs hP hS => ?_)
      refine lv_aload_n hx hb d_MO_closeRun_66 rfl (lv_at hl 3 rfl) ?_
      refine r_get hx hb hC hP i_MO (44) (by decide) rfl rfl 14 (by decide) l_MO_35 rfl d_MO_closeRun_67 ?_
      refine lv_iconst (v := 3) hx hb d_MO_closeRun_70 (by decide) ?_
      refine lv_aload_n hx hb d_MO_closeRun_71 rfl (lv_at hl 3 rfl) ?_
      refine r_get hx hb hC hP i_MO (44) (by decide) rfl rfl 13 (by decide) l_MO_111 rfl d_MO_closeRun_72 ?_
      rw [show (su (su (su (su S 44 13 (nI q)) 53 0 ((S 53 0) - (S 52 (3 * q)))) 53 1 ((S 53 1) - (S 52 (3 * q + 1)))) 53 2 ((S 53 2) - (S 52 (3 * q + 2)))) 44 13 = nI q from by rw [su_cell _ _ _ (by decide), su_cell _ _ _ (by decide), su_cell _ _ _ (by decide), su_same]]
      refine lv_imul hx hb d_MO_closeRun_75 ?_
      refine lv_iload hx hb d_MO_closeRun_76 (lv_at hl 0 rfl) ?_
      refine lv_iadd hx hb d_MO_closeRun_78 ?_
      rw [show (3 * (nI q)) + 2 = nI (3 * q + 2) from (nI_m3 q 2)]
      refine r_ild hx hb hC hP (52) (by decide) rfl (3 * q + 2) rfl (by omega) (by decide) d_MO_closeRun_79 ?_
      rw [show (su (su (su (su S 44 13 (nI q)) 53 0 ((S 53 0) - (S 52 (3 * q)))) 53 1 ((S 53 1) - (S 52 (3 * q + 1)))) 53 2 ((S 53 2) - (S 52 (3 * q + 2)))) 52 (3 * q + 2) = S 52 (3 * q + 2) from by rw [su_cell _ _ _ (by decide), su_cell _ _ _ (by decide), su_cell _ _ _ (by decide), su_cell _ _ _ (by decide)]]
      refine lv_if_le (tgt := 86) hx hb d_MO_closeRun_80 (by decide) (fun c_80xx => ?_) (fun c_80xx => ?_)
      · refine lv_iinc (v := 3) (lv' := [(5, .int 3), (4, .int 1), (3, .int (S 44 12)), (0, .ref (gA G 44)), (1, .int bk), (2, .int mi)]) hx hb d_MO_closeRun_86 hl (k := 0) rfl (by decide) (by decide) rfl (fun ls hl => ?_)
        refine lv_goto (tgt := 36) hx hb d_MO_closeRun_89 (by decide) ?_
        refine lv_iload hx hb d_MO_closeRun_36 (lv_at hl 0 rfl) ?_
        refine lv_iconst (v := 3) hx hb d_MO_closeRun_38 (by decide) ?_
        refine lv_icmp_ge (tgt := 92) hx hb d_MO_closeRun_39 (by decide) (fun _ => ?_) (fun h => absurd h (by decide))
        refine lv_iload hx hb d_MO_closeRun_92 (lv_at hl 1 rfl) ?_
        refine lv_if_eq (tgt := 118) hx hb d_MO_closeRun_94 (by decide) (fun h => absurd h (by decide)) (fun _ => ?_)
        refine lv_aload_n hx hb d_MO_closeRun_97 rfl (lv_at hl 3 rfl) ?_
        refine lv_iconst (v := 4) hx hb d_MO_closeRun_98 (by decide) ?_
        refine lv_aload_n hx hb d_MO_closeRun_99 rfl (lv_at hl 3 rfl) ?_
        refine r_get hx hb hC hP i_MO (44) (by decide) rfl rfl 11 (by decide) l_MO_92 rfl d_MO_closeRun_100 ?_
        rw [show (su (su (su (su S 44 13 (nI q)) 53 0 ((S 53 0) - (S 52 (3 * q)))) 53 1 ((S 53 1) - (S 52 (3 * q + 1)))) 53 2 ((S 53 2) - (S 52 (3 * q + 2)))) 44 11 = S 44 11 from by rw [su_cell _ _ _ (by decide), su_cell _ _ _ (by decide), su_cell _ _ _ (by decide), su_int _ _ _ (by decide)]]
        rw [show S 44 11 = 3 from he]
        refine lv_iconst (v := 4) hx hb d_MO_closeRun_103 (by decide) ?_
        refine lv_icmp_ne (tgt := 114) hx hb d_MO_closeRun_104 (by decide) (fun _ => ?_) (fun h => absurd h (by decide))
        refine lv_iconst (v := 0) hx hb d_MO_closeRun_114 (by decide) ?_
        refine r_v hC hS (r_runV (np := 2) (As := [.int 4, .int 0]) (rest := []) hx hb hml hC hP hS (by decide) rfl rfl (m_MO_raise l G (su (su (su (su S 44 13 (nI q)) 53 0 ((S 53 0) - (S 52 (3 * q)))) 53 1 ((S 53 1) - (S 52 (3 * q + 1)))) 53 2 ((S 53 2) - (S 52 (3 * q + 2)))) n (by omega) (by rw [su_cell _ _ _ (by decide), su_cell _ _ _ (by decide), su_cell _ _ _ (by decide), su_int _ _ _ (by decide)]; exact hn) 4 0) l_MO_124 im_MO_raise se_MO_raise in_MO c_MO_raise_in (by decide +kernel) ⟨by simp only [rmF]; omega, by simp only [rmF]; omega⟩ rfl hl.1 (Nat.le_of_ble_eq_true rfl) d_MO_closeRun_115 ⟨Nat.le_refl _, Nat.le_refl _⟩) (fun S_115 H locs hw hP hS => ?_)
        rw [hw] at hP
        refine lv_aload_n hx hb d_MO_closeRun_118 rfl (lv_at hl 3 rfl) ?_
        refine r_get hx hb hC hP i_MO (44) (by decide) rfl rfl 11 (by decide) l_MO_92 rfl d_MO_closeRun_119 ?_
        rw [show (moRaise (su (su (su (su S 44 13 (nI q)) 53 0 ((S 53 0) - (S 52 (3 * q)))) 53 1 ((S 53 1) - (S 52 (3 * q + 1)))) 53 2 ((S 53 2) - (S 52 (3 * q + 2)))) n 4 0) 44 11 = 4 from (moRaise_11 _ _ _ _)]
        refine lv_iconst (v := 4) hx hb d_MO_closeRun_122 (by decide) ?_
        refine lv_icmp_ne (tgt := 132) hx hb d_MO_closeRun_123 (by decide) (fun h => absurd h (by decide)) (fun _ => ?_)
        refine lv_aload_n hx hb d_MO_closeRun_126 rfl (lv_at hl 3 rfl) ?_
        refine lv_iload_n hx hb d_MO_closeRun_127 rfl (lv_at hl 5 rfl) ?_
        refine r_put hx hb hC hP hS i_MO t_MO t_MO_ok n_MO (44) (by decide) rfl rfl 10 (by decide) l_MO_121 rfl rfl rfl (Nat.le_of_ble_eq_true rfl) d_MO_closeRun_128 (fun H locs hP hS => ?_)
        exact e_v hx hb hr hlk hC hP hS d_MO_closeRun_131 rfl
      · refine lv_iconst (v := 1) hx hb d_MO_closeRun_83 (by decide) ?_
        refine lv_istore (lv' := [(4, .int 1), (5, .int 2), (3, .int (S 44 12)), (0, .ref (gA G 44)), (1, .int bk), (2, .int mi)]) hx hb d_MO_closeRun_84 hl (by decide) rfl (fun ls hl => ?_)
        refine lv_iinc (v := 3) (lv' := [(5, .int 3), (4, .int 1), (3, .int (S 44 12)), (0, .ref (gA G 44)), (1, .int bk), (2, .int mi)]) hx hb d_MO_closeRun_86 hl (k := 1) rfl (by decide) (by decide) rfl (fun ls hl => ?_)
        refine lv_goto (tgt := 36) hx hb d_MO_closeRun_89 (by decide) ?_
        refine lv_iload hx hb d_MO_closeRun_36 (lv_at hl 0 rfl) ?_
        refine lv_iconst (v := 3) hx hb d_MO_closeRun_38 (by decide) ?_
        refine lv_icmp_ge (tgt := 92) hx hb d_MO_closeRun_39 (by decide) (fun _ => ?_) (fun h => absurd h (by decide))
        refine lv_iload hx hb d_MO_closeRun_92 (lv_at hl 1 rfl) ?_
        refine lv_if_eq (tgt := 118) hx hb d_MO_closeRun_94 (by decide) (fun h => absurd h (by decide)) (fun _ => ?_)
        refine lv_aload_n hx hb d_MO_closeRun_97 rfl (lv_at hl 3 rfl) ?_
        refine lv_iconst (v := 4) hx hb d_MO_closeRun_98 (by decide) ?_
        refine lv_aload_n hx hb d_MO_closeRun_99 rfl (lv_at hl 3 rfl) ?_
        refine r_get hx hb hC hP i_MO (44) (by decide) rfl rfl 11 (by decide) l_MO_92 rfl d_MO_closeRun_100 ?_
        rw [show (su (su (su (su S 44 13 (nI q)) 53 0 ((S 53 0) - (S 52 (3 * q)))) 53 1 ((S 53 1) - (S 52 (3 * q + 1)))) 53 2 ((S 53 2) - (S 52 (3 * q + 2)))) 44 11 = S 44 11 from by rw [su_cell _ _ _ (by decide), su_cell _ _ _ (by decide), su_cell _ _ _ (by decide), su_int _ _ _ (by decide)]]
        rw [show S 44 11 = 3 from he]
        refine lv_iconst (v := 4) hx hb d_MO_closeRun_103 (by decide) ?_
        refine lv_icmp_ne (tgt := 114) hx hb d_MO_closeRun_104 (by decide) (fun _ => ?_) (fun h => absurd h (by decide))
        refine lv_iconst (v := 0) hx hb d_MO_closeRun_114 (by decide) ?_
        refine r_v hC hS (r_runV (np := 2) (As := [.int 4, .int 0]) (rest := []) hx hb hml hC hP hS (by decide) rfl rfl (m_MO_raise l G (su (su (su (su S 44 13 (nI q)) 53 0 ((S 53 0) - (S 52 (3 * q)))) 53 1 ((S 53 1) - (S 52 (3 * q + 1)))) 53 2 ((S 53 2) - (S 52 (3 * q + 2)))) n (by omega) (by rw [su_cell _ _ _ (by decide), su_cell _ _ _ (by decide), su_cell _ _ _ (by decide), su_int _ _ _ (by decide)]; exact hn) 4 0) l_MO_124 im_MO_raise se_MO_raise in_MO c_MO_raise_in (by decide +kernel) ⟨by simp only [rmF]; omega, by simp only [rmF]; omega⟩ rfl hl.1 (Nat.le_of_ble_eq_true rfl) d_MO_closeRun_115 ⟨Nat.le_refl _, Nat.le_refl _⟩) (fun S_115 H locs hw hP hS => ?_)
        rw [hw] at hP
        refine lv_aload_n hx hb d_MO_closeRun_118 rfl (lv_at hl 3 rfl) ?_
        refine r_get hx hb hC hP i_MO (44) (by decide) rfl rfl 11 (by decide) l_MO_92 rfl d_MO_closeRun_119 ?_
        rw [show (moRaise (su (su (su (su S 44 13 (nI q)) 53 0 ((S 53 0) - (S 52 (3 * q)))) 53 1 ((S 53 1) - (S 52 (3 * q + 1)))) 53 2 ((S 53 2) - (S 52 (3 * q + 2)))) n 4 0) 44 11 = 4 from (moRaise_11 _ _ _ _)]
        refine lv_iconst (v := 4) hx hb d_MO_closeRun_122 (by decide) ?_
        refine lv_icmp_ne (tgt := 132) hx hb d_MO_closeRun_123 (by decide) (fun h => absurd h (by decide)) (fun _ => ?_)
        refine lv_aload_n hx hb d_MO_closeRun_126 rfl (lv_at hl 3 rfl) ?_
        refine lv_iload_n hx hb d_MO_closeRun_127 rfl (lv_at hl 5 rfl) ?_
        refine r_put hx hb hC hP hS i_MO t_MO t_MO_ok n_MO (44) (by decide) rfl rfl 10 (by decide) l_MO_121 rfl rfl rfl (Nat.le_of_ble_eq_true rfl) d_MO_closeRun_128 (fun H locs hP hS => ?_)
        exact e_v hx hb hr hlk hC hP hS d_MO_closeRun_131 rfl

set_option maxHeartbeats 4000000 in
set_option maxRecDepth 100000 in
theorem m_MO_closeRunO0 (l : Launch) (G : WG) (S : SS) (q : Nat) (hq6 : q < 6) (hq : S 44 13 = nI (q + 1)) (bk mi : Int32) (he : S 44 11 = 0) (how : moOwes S q = true) (n : Nat) (hn6 : n < 600) (hn : S 44 18 = nI n) : Cv l y_MO_closeRun b_MO_closeRun 6 2 G [.ref (gA G 44), .int bk, .int mi] S (fun S1 => S1 = su (moRaise (crH S q) n 4 0) 44 10 mi) := by
  refine mk l (by decide +kernel) (Nat.le_of_ble_eq_true rfl) ?_
  intro pp_ ee_ ss_ mm_ be_ me_ co_ ls hx hb hr hlk hml hC hP hS hl
  have hl : lv_has ls 6 [(0, .ref (gA G 44)), (1, .int bk), (2, .int mi)] := hl
  refine lv_aload_n hx hb d_MO_closeRun_0 rfl (lv_at hl 0 rfl) ?_
  refine r_get hx hb hC hP i_MO (44) (by decide) rfl rfl 11 (by decide) l_MO_92 rfl d_MO_closeRun_1 ?_
  rw [show S 44 11 = 0 from he]
  refine lv_iconst (v := 3) hx hb d_MO_closeRun_4 (by decide) ?_
  refine lv_icmp_ne (tgt := 15) hx hb d_MO_closeRun_5 (by decide) (fun _ => ?_) (fun h => absurd h (by decide))
  refine lv_aload_n hx hb d_MO_closeRun_15 rfl (lv_at hl 0 rfl) ?_
  refine r_get hx hb hC hP i_MO (44) (by decide) rfl rfl 10 (by decide) l_MO_121 rfl d_MO_closeRun_16 ?_
  refine lv_istore_n (lv' := [(3, .int (S 44 10)), (0, .ref (gA G 44)), (1, .int bk), (2, .int mi)]) hx hb d_MO_closeRun_19 rfl hl (by decide) rfl (fun ls hl => ?_)
  refine lv_iconst (v := 0) hx hb d_MO_closeRun_20 (by decide) ?_
  refine lv_istore (lv' := [(4, .int 0), (3, .int (S 44 10)), (0, .ref (gA G 44)), (1, .int bk), (2, .int mi)]) hx hb d_MO_closeRun_21 hl (by decide) rfl (fun ls hl => ?_)
  refine lv_aload_n hx hb d_MO_closeRun_23 rfl (lv_at hl 2 rfl) ?_
  refine lv_dup hx hb d_MO_closeRun_24 rfl ?_
  refine r_get hx hb hC hP i_MO (44) (by decide) rfl rfl 13 (by decide) l_MO_111 rfl d_MO_closeRun_25 ?_
  rw [show S 44 13 = nI (q + 1) from hq]
  refine lv_iconst (v := 1) hx hb d_MO_closeRun_28 (by decide) ?_
  refine lv_isub hx hb d_MO_closeRun_29 ?_
  rw [show (nI (q + 1)) - 1 = nI q from nI_pred q]
  refine r_put hx hb hC hP hS i_MO t_MO t_MO_ok n_MO (44) (by decide) rfl rfl 13 (by decide) l_MO_111 rfl rfl rfl (Nat.le_of_ble_eq_true rfl) d_MO_closeRun_30 (fun H locs hP hS => ?_)
  refine lv_iconst (v := 0) hx hb d_MO_closeRun_33 (by decide) ?_
  refine lv_istore (lv' := [(5, .int 0), (4, .int 0), (3, .int (S 44 10)), (0, .ref (gA G 44)), (1, .int bk), (2, .int mi)]) hx hb d_MO_closeRun_34 hl (by decide) rfl (fun ls hl => ?_)
  refine lv_iload hx hb d_MO_closeRun_36 (lv_at hl 0 rfl) ?_
  refine lv_iconst (v := 3) hx hb d_MO_closeRun_38 (by decide) ?_
  refine lv_icmp_ge (tgt := 92) hx hb d_MO_closeRun_39 (by decide) (fun h => absurd h (by decide)) (fun _ => ?_)
  refine lv_aload_n hx hb d_MO_closeRun_42 rfl (lv_at hl 3 rfl) ?_
  refine r_get hx hb hC hP i_MO (44) (by decide) rfl rfl 15 (by decide) l_MO_38 rfl d_MO_closeRun_43 ?_
  refine lv_iload hx hb d_MO_closeRun_46 (lv_at hl 0 rfl) ?_
  refine lv_dup2_11 hx hb d_MO_closeRun_48 rfl rfl ?_
  refine r_ild hx hb hC hP (53) (by decide) rfl 0 rfl (by decide) (by decide) d_MO_closeRun_49 ?_
  rw [show (su S 44 13 (nI q)) 53 0 = S 53 0 from by rw [su_cell _ _ _ (by decide)]]
  refine lv_aload_n hx hb d_MO_closeRun_50 rfl (lv_at hl 3 rfl) ?_
  refine r_get hx hb hC hP i_MO (44) (by decide) rfl rfl 14 (by decide) l_MO_35 rfl d_MO_closeRun_51 ?_
  refine lv_iconst (v := 3) hx hb d_MO_closeRun_54 (by decide) ?_
  refine lv_aload_n hx hb d_MO_closeRun_55 rfl (lv_at hl 3 rfl) ?_
  refine r_get hx hb hC hP i_MO (44) (by decide) rfl rfl 13 (by decide) l_MO_111 rfl d_MO_closeRun_56 ?_
  rw [show (su S 44 13 (nI q)) 44 13 = nI q from by rw [su_same]]
  refine lv_imul hx hb d_MO_closeRun_59 ?_
  refine lv_iload hx hb d_MO_closeRun_60 (lv_at hl 0 rfl) ?_
  refine lv_iadd hx hb d_MO_closeRun_62 ?_
  rw [show (3 * (nI q)) + 0 = nI (3 * q) from (nI_m3 q 0)]
  refine r_ild hx hb hC hP (52) (by decide) rfl (3 * q) rfl (by omega) (by decide) d_MO_closeRun_63 ?_
  rw [show (su S 44 13 (nI q)) 52 (3 * q) = S 52 (3 * q) from by rw [su_cell _ _ _ (by decide)]]
  refine lv_isub hx hb d_MO_closeRun_64 ?_
  refine r_ist hx hb hC hP hS (53) (by decide) (fun _ => rfl) 0 rfl (by decide) (by decide) d_MO_closeRun_65 (fun H locs hP hS => ?_)
  refine lv_aload_n hx hb d_MO_closeRun_66 rfl (lv_at hl 3 rfl) ?_
  refine r_get hx hb hC hP i_MO (44) (by decide) rfl rfl 14 (by decide) l_MO_35 rfl d_MO_closeRun_67 ?_
  refine lv_iconst (v := 3) hx hb d_MO_closeRun_70 (by decide) ?_
  refine lv_aload_n hx hb d_MO_closeRun_71 rfl (lv_at hl 3 rfl) ?_
  refine r_get hx hb hC hP i_MO (44) (by decide) rfl rfl 13 (by decide) l_MO_111 rfl d_MO_closeRun_72 ?_
  rw [show (su (su S 44 13 (nI q)) 53 0 ((S 53 0) - (S 52 (3 * q)))) 44 13 = nI q from by rw [su_cell _ _ _ (by decide), su_same]]
  refine lv_imul hx hb d_MO_closeRun_75 ?_
  refine lv_iload hx hb d_MO_closeRun_76 (lv_at hl 0 rfl) ?_
  refine lv_iadd hx hb d_MO_closeRun_78 ?_
  rw [show (3 * (nI q)) + 0 = nI (3 * q) from (nI_m3 q 0)]
  refine r_ild hx hb hC hP (52) (by decide) rfl (3 * q) rfl (by omega) (by decide) d_MO_closeRun_79 ?_
  rw [show (su (su S 44 13 (nI q)) 53 0 ((S 53 0) - (S 52 (3 * q)))) 52 (3 * q) = S 52 (3 * q) from by rw [su_cell _ _ _ (by decide), su_cell _ _ _ (by decide)]]
  refine lv_if_le (tgt := 86) hx hb d_MO_closeRun_80 (by decide) (fun c_80 => ?_) (fun c_80 => ?_)
  · refine lv_iinc (v := 1) (lv' := [(5, .int 1), (4, .int 0), (3, .int (S 44 10)), (0, .ref (gA G 44)), (1, .int bk), (2, .int mi)]) hx hb d_MO_closeRun_86 hl (k := 0) rfl (by decide) (by decide) rfl (fun ls hl => ?_)
    refine lv_goto (tgt := 36) hx hb d_MO_closeRun_89 (by decide) ?_
    refine lv_iload hx hb d_MO_closeRun_36 (lv_at hl 0 rfl) ?_
    refine lv_iconst (v := 3) hx hb d_MO_closeRun_38 (by decide) ?_
    refine lv_icmp_ge (tgt := 92) hx hb d_MO_closeRun_39 (by decide) (fun h => absurd h (by decide)) (fun _ => ?_)
    refine lv_aload_n hx hb d_MO_closeRun_42 rfl (lv_at hl 3 rfl) ?_
    refine r_get hx hb hC hP i_MO (44) (by decide) rfl rfl 15 (by decide) l_MO_38 rfl d_MO_closeRun_43 ?_
    refine lv_iload hx hb d_MO_closeRun_46 (lv_at hl 0 rfl) ?_
    refine lv_dup2_11 hx hb d_MO_closeRun_48 rfl rfl ?_
    refine r_ild hx hb hC hP (53) (by decide) rfl 1 rfl (by decide) (by decide) d_MO_closeRun_49 ?_
    rw [show (su (su S 44 13 (nI q)) 53 0 ((S 53 0) - (S 52 (3 * q)))) 53 1 = S 53 1 from by rw [su_int _ _ _ (by decide), su_cell _ _ _ (by decide)]]
    refine lv_aload_n hx hb d_MO_closeRun_50 rfl (lv_at hl 3 rfl) ?_
    refine r_get hx hb hC hP i_MO (44) (by decide) rfl rfl 14 (by decide) l_MO_35 rfl d_MO_closeRun_51 ?_
    refine lv_iconst (v := 3) hx hb d_MO_closeRun_54 (by decide) ?_
    refine lv_aload_n hx hb d_MO_closeRun_55 rfl (lv_at hl 3 rfl) ?_
    refine r_get hx hb hC hP i_MO (44) (by decide) rfl rfl 13 (by decide) l_MO_111 rfl d_MO_closeRun_56 ?_
    rw [show (su (su S 44 13 (nI q)) 53 0 ((S 53 0) - (S 52 (3 * q)))) 44 13 = nI q from by rw [su_cell _ _ _ (by decide), su_same]]
    refine lv_imul hx hb d_MO_closeRun_59 ?_
    refine lv_iload hx hb d_MO_closeRun_60 (lv_at hl 0 rfl) ?_
    refine lv_iadd hx hb d_MO_closeRun_62 ?_
    rw [show (3 * (nI q)) + 1 = nI (3 * q + 1) from (nI_m3 q 1)]
    refine r_ild hx hb hC hP (52) (by decide) rfl (3 * q + 1) rfl (by omega) (by decide) d_MO_closeRun_63 ?_
    rw [show (su (su S 44 13 (nI q)) 53 0 ((S 53 0) - (S 52 (3 * q)))) 52 (3 * q + 1) = S 52 (3 * q + 1) from by rw [su_cell _ _ _ (by decide), su_cell _ _ _ (by decide)]]
    refine lv_isub hx hb d_MO_closeRun_64 ?_
    refine r_ist hx hb hC hP hS (53) (by decide) (fun _ => rfl) 1 rfl (by decide) (by decide) d_MO_closeRun_65 (fun H locs hP hS => ?_)
    refine lv_aload_n hx hb d_MO_closeRun_66 rfl (lv_at hl 3 rfl) ?_
    refine r_get hx hb hC hP i_MO (44) (by decide) rfl rfl 14 (by decide) l_MO_35 rfl d_MO_closeRun_67 ?_
    refine lv_iconst (v := 3) hx hb d_MO_closeRun_70 (by decide) ?_
    refine lv_aload_n hx hb d_MO_closeRun_71 rfl (lv_at hl 3 rfl) ?_
    refine r_get hx hb hC hP i_MO (44) (by decide) rfl rfl 13 (by decide) l_MO_111 rfl d_MO_closeRun_72 ?_
    rw [show (su (su (su S 44 13 (nI q)) 53 0 ((S 53 0) - (S 52 (3 * q)))) 53 1 ((S 53 1) - (S 52 (3 * q + 1)))) 44 13 = nI q from by rw [su_cell _ _ _ (by decide), su_cell _ _ _ (by decide), su_same]]
    refine lv_imul hx hb d_MO_closeRun_75 ?_
    refine lv_iload hx hb d_MO_closeRun_76 (lv_at hl 0 rfl) ?_
    refine lv_iadd hx hb d_MO_closeRun_78 ?_
    rw [show (3 * (nI q)) + 1 = nI (3 * q + 1) from (nI_m3 q 1)]
    refine r_ild hx hb hC hP (52) (by decide) rfl (3 * q + 1) rfl (by omega) (by decide) d_MO_closeRun_79 ?_
    rw [show (su (su (su S 44 13 (nI q)) 53 0 ((S 53 0) - (S 52 (3 * q)))) 53 1 ((S 53 1) - (S 52 (3 * q + 1)))) 52 (3 * q + 1) = S 52 (3 * q + 1) from by rw [su_cell _ _ _ (by decide), su_cell _ _ _ (by decide), su_cell _ _ _ (by decide)]]
    refine lv_if_le (tgt := 86) hx hb d_MO_closeRun_80 (by decide) (fun c_80x => ?_) (fun c_80x => ?_)
    · refine lv_iinc (v := 2) (lv' := [(5, .int 2), (4, .int 0), (3, .int (S 44 10)), (0, .ref (gA G 44)), (1, .int bk), (2, .int mi)]) hx hb d_MO_closeRun_86 hl (k := 0) rfl (by decide) (by decide) rfl (fun ls hl => ?_)
      refine lv_goto (tgt := 36) hx hb d_MO_closeRun_89 (by decide) ?_
      refine lv_iload hx hb d_MO_closeRun_36 (lv_at hl 0 rfl) ?_
      refine lv_iconst (v := 3) hx hb d_MO_closeRun_38 (by decide) ?_
      refine lv_icmp_ge (tgt := 92) hx hb d_MO_closeRun_39 (by decide) (fun h => absurd h (by decide)) (fun _ => ?_)
      refine lv_aload_n hx hb d_MO_closeRun_42 rfl (lv_at hl 3 rfl) ?_
      refine r_get hx hb hC hP i_MO (44) (by decide) rfl rfl 15 (by decide) l_MO_38 rfl d_MO_closeRun_43 ?_
      refine lv_iload hx hb d_MO_closeRun_46 (lv_at hl 0 rfl) ?_
      refine lv_dup2_11 hx hb d_MO_closeRun_48 rfl rfl ?_
      refine r_ild hx hb hC hP (53) (by decide) rfl 2 rfl (by decide) (by decide) d_MO_closeRun_49 ?_
      rw [show (su (su (su S 44 13 (nI q)) 53 0 ((S 53 0) - (S 52 (3 * q)))) 53 1 ((S 53 1) - (S 52 (3 * q + 1)))) 53 2 = S 53 2 from by rw [su_int _ _ _ (by decide), su_int _ _ _ (by decide), su_cell _ _ _ (by decide)]]
      refine lv_aload_n hx hb d_MO_closeRun_50 rfl (lv_at hl 3 rfl) ?_
      refine r_get hx hb hC hP i_MO (44) (by decide) rfl rfl 14 (by decide) l_MO_35 rfl d_MO_closeRun_51 ?_
      refine lv_iconst (v := 3) hx hb d_MO_closeRun_54 (by decide) ?_
      refine lv_aload_n hx hb d_MO_closeRun_55 rfl (lv_at hl 3 rfl) ?_
      refine r_get hx hb hC hP i_MO (44) (by decide) rfl rfl 13 (by decide) l_MO_111 rfl d_MO_closeRun_56 ?_
      rw [show (su (su (su S 44 13 (nI q)) 53 0 ((S 53 0) - (S 52 (3 * q)))) 53 1 ((S 53 1) - (S 52 (3 * q + 1)))) 44 13 = nI q from by rw [su_cell _ _ _ (by decide), su_cell _ _ _ (by decide), su_same]]
      refine lv_imul hx hb d_MO_closeRun_59 ?_
      refine lv_iload hx hb d_MO_closeRun_60 (lv_at hl 0 rfl) ?_
      refine lv_iadd hx hb d_MO_closeRun_62 ?_
      rw [show (3 * (nI q)) + 2 = nI (3 * q + 2) from (nI_m3 q 2)]
      refine r_ild hx hb hC hP (52) (by decide) rfl (3 * q + 2) rfl (by omega) (by decide) d_MO_closeRun_63 ?_
      rw [show (su (su (su S 44 13 (nI q)) 53 0 ((S 53 0) - (S 52 (3 * q)))) 53 1 ((S 53 1) - (S 52 (3 * q + 1)))) 52 (3 * q + 2) = S 52 (3 * q + 2) from by rw [su_cell _ _ _ (by decide), su_cell _ _ _ (by decide), su_cell _ _ _ (by decide)]]
      refine lv_isub hx hb d_MO_closeRun_64 ?_
      refine r_ist hx hb hC hP hS (53) (by decide) (fun _ => rfl) 2 rfl (by decide) (by decide) d_MO_closeRun_65 (fun H locs hP hS => ?_)
      refine lv_aload_n hx hb d_MO_closeRun_66 rfl (lv_at hl 3 rfl) ?_
      refine r_get hx hb hC hP i_MO (44) (by decide) rfl rfl 14 (by decide) l_MO_35 rfl d_MO_closeRun_67 ?_
      refine lv_iconst (v := 3) hx hb d_MO_closeRun_70 (by decide) ?_
      refine lv_aload_n hx hb d_MO_closeRun_71 rfl (lv_at hl 3 rfl) ?_
      refine r_get hx hb hC hP i_MO (44) (by decide) rfl rfl 13 (by decide) l_MO_111 rfl d_MO_closeRun_72 ?_
      rw [show (su (su (su (su S 44 13 (nI q)) 53 0 ((S 53 0) - (S 52 (3 * q)))) 53 1 ((S 53 1) - (S 52 (3 * q + 1)))) 53 2 ((S 53 2) - (S 52 (3 * q + 2)))) 44 13 = nI q from by rw [su_cell _ _ _ (by decide), su_cell _ _ _ (by decide), su_cell _ _ _ (by decide), su_same]]
      refine lv_imul hx hb d_MO_closeRun_75 ?_
      refine lv_iload hx hb d_MO_closeRun_76 (lv_at hl 0 rfl) ?_
      refine lv_iadd hx hb d_MO_closeRun_78 ?_
      rw [show (3 * (nI q)) + 2 = nI (3 * q + 2) from (nI_m3 q 2)]
      refine r_ild hx hb hC hP (52) (by decide) rfl (3 * q + 2) rfl (by omega) (by decide) d_MO_closeRun_79 ?_
      rw [show (su (su (su (su S 44 13 (nI q)) 53 0 ((S 53 0) - (S 52 (3 * q)))) 53 1 ((S 53 1) - (S 52 (3 * q + 1)))) 53 2 ((S 53 2) - (S 52 (3 * q + 2)))) 52 (3 * q + 2) = S 52 (3 * q + 2) from by rw [su_cell _ _ _ (by decide), su_cell _ _ _ (by decide), su_cell _ _ _ (by decide), su_cell _ _ _ (by decide)]]
      refine lv_if_le (tgt := 86) hx hb d_MO_closeRun_80 (by decide) (fun c_80xx => ?_) (fun c_80xx => ?_)
      · refine lv_iinc (v := 3) (lv' := [(5, .int 3), (4, .int 0), (3, .int (S 44 10)), (0, .ref (gA G 44)), (1, .int bk), (2, .int mi)]) hx hb d_MO_closeRun_86 hl (k := 0) rfl (by decide) (by decide) rfl (fun ls hl => ?_)
        refine lv_goto (tgt := 36) hx hb d_MO_closeRun_89 (by decide) ?_
        refine lv_iload hx hb d_MO_closeRun_36 (lv_at hl 0 rfl) ?_
        refine lv_iconst (v := 3) hx hb d_MO_closeRun_38 (by decide) ?_
        refine lv_icmp_ge (tgt := 92) hx hb d_MO_closeRun_39 (by decide) (fun _ => ?_) (fun h => absurd h (by decide))
        refine lv_iload hx hb d_MO_closeRun_92 (lv_at hl 1 rfl) ?_
        refine lv_if_eq (tgt := 118) hx hb d_MO_closeRun_94 (by decide) (fun _ => ?_) (fun h => absurd h (by decide))
        refine lv_aload_n hx hb d_MO_closeRun_118 rfl (lv_at hl 3 rfl) ?_
        refine r_get hx hb hC hP i_MO (44) (by decide) rfl rfl 11 (by decide) l_MO_92 rfl d_MO_closeRun_119 ?_
        rw [show (su (su (su (su S 44 13 (nI q)) 53 0 ((S 53 0) - (S 52 (3 * q)))) 53 1 ((S 53 1) - (S 52 (3 * q + 1)))) 53 2 ((S 53 2) - (S 52 (3 * q + 2)))) 44 11 = S 44 11 from by rw [su_cell _ _ _ (by decide), su_cell _ _ _ (by decide), su_cell _ _ _ (by decide), su_int _ _ _ (by decide)]]
        rw [show S 44 11 = 0 from he]
        refine lv_iconst (v := 4) hx hb d_MO_closeRun_122 (by decide) ?_
        refine lv_icmp_ne (tgt := 132) hx hb d_MO_closeRun_123 (by decide) (fun _ => ?_) (fun h => absurd h (by decide))
        refine lv_aload_n hx hb d_MO_closeRun_132 rfl (lv_at hl 3 rfl) ?_
        refine lv_iconst (v := 0) hx hb d_MO_closeRun_133 (by decide) ?_
        refine r_put hx hb hC hP hS i_MO t_MO t_MO_ok n_MO (44) (by decide) rfl rfl 11 (by decide) l_MO_92 rfl rfl rfl (Nat.le_of_ble_eq_true rfl) d_MO_closeRun_134 (fun H locs hP hS => ?_)
        refine lv_aload_n hx hb d_MO_closeRun_137 rfl (lv_at hl 3 rfl) ?_
        refine lv_iload_n hx hb d_MO_closeRun_138 rfl (lv_at hl 2 rfl) ?_
        refine r_put hx hb hC hP hS i_MO t_MO t_MO_ok n_MO (44) (by decide) rfl rfl 10 (by decide) l_MO_121 rfl rfl rfl (Nat.le_of_ble_eq_true rfl) d_MO_closeRun_139 (fun H locs hP hS => ?_)
        refine lv_aload_n hx hb d_MO_closeRun_142 rfl (lv_at hl 3 rfl) ?_
        refine lv_iload_n hx hb d_MO_closeRun_143 rfl (lv_at hl 4 rfl) ?_
        refine r_put hx hb hC hP hS i_MO t_MO t_MO_ok n_MO (44) (by decide) rfl rfl 9 (by decide) l_MO_86 rfl rfl rfl (Nat.le_of_ble_eq_true rfl) d_MO_closeRun_144 (fun H locs hP hS => ?_)
        exact e_v hx hb hr hlk hC hP hS d_MO_closeRun_147 (by rw [moOwes, decide_eq_false (Int32.not_lt.mpr c_80), decide_eq_false (Int32.not_lt.mpr c_80x), decide_eq_false (Int32.not_lt.mpr c_80xx)] at how; exact absurd how (by decide))
      · refine lv_iconst (v := 1) hx hb d_MO_closeRun_83 (by decide) ?_
        refine lv_istore (lv' := [(4, .int 1), (5, .int 2), (3, .int (S 44 10)), (0, .ref (gA G 44)), (1, .int bk), (2, .int mi)]) hx hb d_MO_closeRun_84 hl (by decide) rfl (fun ls hl => ?_)
        refine lv_iinc (v := 3) (lv' := [(5, .int 3), (4, .int 1), (3, .int (S 44 10)), (0, .ref (gA G 44)), (1, .int bk), (2, .int mi)]) hx hb d_MO_closeRun_86 hl (k := 1) rfl (by decide) (by decide) rfl (fun ls hl => ?_)
        refine lv_goto (tgt := 36) hx hb d_MO_closeRun_89 (by decide) ?_
        refine lv_iload hx hb d_MO_closeRun_36 (lv_at hl 0 rfl) ?_
        refine lv_iconst (v := 3) hx hb d_MO_closeRun_38 (by decide) ?_
        refine lv_icmp_ge (tgt := 92) hx hb d_MO_closeRun_39 (by decide) (fun _ => ?_) (fun h => absurd h (by decide))
        refine lv_iload hx hb d_MO_closeRun_92 (lv_at hl 1 rfl) ?_
        refine lv_if_eq (tgt := 118) hx hb d_MO_closeRun_94 (by decide) (fun h => absurd h (by decide)) (fun _ => ?_)
        refine lv_aload_n hx hb d_MO_closeRun_97 rfl (lv_at hl 3 rfl) ?_
        refine lv_iconst (v := 4) hx hb d_MO_closeRun_98 (by decide) ?_
        refine lv_aload_n hx hb d_MO_closeRun_99 rfl (lv_at hl 3 rfl) ?_
        refine r_get hx hb hC hP i_MO (44) (by decide) rfl rfl 11 (by decide) l_MO_92 rfl d_MO_closeRun_100 ?_
        rw [show (su (su (su (su S 44 13 (nI q)) 53 0 ((S 53 0) - (S 52 (3 * q)))) 53 1 ((S 53 1) - (S 52 (3 * q + 1)))) 53 2 ((S 53 2) - (S 52 (3 * q + 2)))) 44 11 = S 44 11 from by rw [su_cell _ _ _ (by decide), su_cell _ _ _ (by decide), su_cell _ _ _ (by decide), su_int _ _ _ (by decide)]]
        rw [show S 44 11 = 0 from he]
        refine lv_iconst (v := 4) hx hb d_MO_closeRun_103 (by decide) ?_
        refine lv_icmp_ne (tgt := 114) hx hb d_MO_closeRun_104 (by decide) (fun _ => ?_) (fun h => absurd h (by decide))
        refine lv_iconst (v := 0) hx hb d_MO_closeRun_114 (by decide) ?_
        refine r_v hC hS (r_runV (np := 2) (As := [.int 4, .int 0]) (rest := []) hx hb hml hC hP hS (by decide) rfl rfl (m_MO_raise l G (su (su (su (su S 44 13 (nI q)) 53 0 ((S 53 0) - (S 52 (3 * q)))) 53 1 ((S 53 1) - (S 52 (3 * q + 1)))) 53 2 ((S 53 2) - (S 52 (3 * q + 2)))) n (by omega) (by rw [su_cell _ _ _ (by decide), su_cell _ _ _ (by decide), su_cell _ _ _ (by decide), su_int _ _ _ (by decide)]; exact hn) 4 0) l_MO_124 im_MO_raise se_MO_raise in_MO c_MO_raise_in (by decide +kernel) ⟨by simp only [rmF]; omega, by simp only [rmF]; omega⟩ rfl hl.1 (Nat.le_of_ble_eq_true rfl) d_MO_closeRun_115 ⟨Nat.le_refl _, Nat.le_refl _⟩) (fun S_115 H locs hw hP hS => ?_)
        rw [hw] at hP
        refine lv_aload_n hx hb d_MO_closeRun_118 rfl (lv_at hl 3 rfl) ?_
        refine r_get hx hb hC hP i_MO (44) (by decide) rfl rfl 11 (by decide) l_MO_92 rfl d_MO_closeRun_119 ?_
        rw [show (moRaise (su (su (su (su S 44 13 (nI q)) 53 0 ((S 53 0) - (S 52 (3 * q)))) 53 1 ((S 53 1) - (S 52 (3 * q + 1)))) 53 2 ((S 53 2) - (S 52 (3 * q + 2)))) n 4 0) 44 11 = 4 from (moRaise_11 _ _ _ _)]
        refine lv_iconst (v := 4) hx hb d_MO_closeRun_122 (by decide) ?_
        refine lv_icmp_ne (tgt := 132) hx hb d_MO_closeRun_123 (by decide) (fun h => absurd h (by decide)) (fun _ => ?_)
        refine lv_aload_n hx hb d_MO_closeRun_126 rfl (lv_at hl 3 rfl) ?_
        refine lv_iload_n hx hb d_MO_closeRun_127 rfl (lv_at hl 5 rfl) ?_
        refine r_put hx hb hC hP hS i_MO t_MO t_MO_ok n_MO (44) (by decide) rfl rfl 10 (by decide) l_MO_121 rfl rfl rfl (Nat.le_of_ble_eq_true rfl) d_MO_closeRun_128 (fun H locs hP hS => ?_)
        exact e_v hx hb hr hlk hC hP hS d_MO_closeRun_131 rfl
    · refine lv_iconst (v := 1) hx hb d_MO_closeRun_83 (by decide) ?_
      refine lv_istore (lv' := [(4, .int 1), (5, .int 1), (3, .int (S 44 10)), (0, .ref (gA G 44)), (1, .int bk), (2, .int mi)]) hx hb d_MO_closeRun_84 hl (by decide) rfl (fun ls hl => ?_)
      refine lv_iinc (v := 2) (lv' := [(5, .int 2), (4, .int 1), (3, .int (S 44 10)), (0, .ref (gA G 44)), (1, .int bk), (2, .int mi)]) hx hb d_MO_closeRun_86 hl (k := 1) rfl (by decide) (by decide) rfl (fun ls hl => ?_)
      refine lv_goto (tgt := 36) hx hb d_MO_closeRun_89 (by decide) ?_
      refine lv_iload hx hb d_MO_closeRun_36 (lv_at hl 0 rfl) ?_
      refine lv_iconst (v := 3) hx hb d_MO_closeRun_38 (by decide) ?_
      refine lv_icmp_ge (tgt := 92) hx hb d_MO_closeRun_39 (by decide) (fun h => absurd h (by decide)) (fun _ => ?_)
      refine lv_aload_n hx hb d_MO_closeRun_42 rfl (lv_at hl 3 rfl) ?_
      refine r_get hx hb hC hP i_MO (44) (by decide) rfl rfl 15 (by decide) l_MO_38 rfl d_MO_closeRun_43 ?_
      refine lv_iload hx hb d_MO_closeRun_46 (lv_at hl 0 rfl) ?_
      refine lv_dup2_11 hx hb d_MO_closeRun_48 rfl rfl ?_
      refine r_ild hx hb hC hP (53) (by decide) rfl 2 rfl (by decide) (by decide) d_MO_closeRun_49 ?_
      rw [show (su (su (su S 44 13 (nI q)) 53 0 ((S 53 0) - (S 52 (3 * q)))) 53 1 ((S 53 1) - (S 52 (3 * q + 1)))) 53 2 = S 53 2 from by rw [su_int _ _ _ (by decide), su_int _ _ _ (by decide), su_cell _ _ _ (by decide)]]
      refine lv_aload_n hx hb d_MO_closeRun_50 rfl (lv_at hl 3 rfl) ?_
      refine r_get hx hb hC hP i_MO (44) (by decide) rfl rfl 14 (by decide) l_MO_35 rfl d_MO_closeRun_51 ?_
      refine lv_iconst (v := 3) hx hb d_MO_closeRun_54 (by decide) ?_
      refine lv_aload_n hx hb d_MO_closeRun_55 rfl (lv_at hl 3 rfl) ?_
      refine r_get hx hb hC hP i_MO (44) (by decide) rfl rfl 13 (by decide) l_MO_111 rfl d_MO_closeRun_56 ?_
      rw [show (su (su (su S 44 13 (nI q)) 53 0 ((S 53 0) - (S 52 (3 * q)))) 53 1 ((S 53 1) - (S 52 (3 * q + 1)))) 44 13 = nI q from by rw [su_cell _ _ _ (by decide), su_cell _ _ _ (by decide), su_same]]
      refine lv_imul hx hb d_MO_closeRun_59 ?_
      refine lv_iload hx hb d_MO_closeRun_60 (lv_at hl 0 rfl) ?_
      refine lv_iadd hx hb d_MO_closeRun_62 ?_
      rw [show (3 * (nI q)) + 2 = nI (3 * q + 2) from (nI_m3 q 2)]
      refine r_ild hx hb hC hP (52) (by decide) rfl (3 * q + 2) rfl (by omega) (by decide) d_MO_closeRun_63 ?_
      rw [show (su (su (su S 44 13 (nI q)) 53 0 ((S 53 0) - (S 52 (3 * q)))) 53 1 ((S 53 1) - (S 52 (3 * q + 1)))) 52 (3 * q + 2) = S 52 (3 * q + 2) from by rw [su_cell _ _ _ (by decide), su_cell _ _ _ (by decide), su_cell _ _ _ (by decide)]]
      refine lv_isub hx hb d_MO_closeRun_64 ?_
      refine r_ist hx hb hC hP hS (53) (by decide) (fun _ => rfl) 2 rfl (by decide) (by decide) d_MO_closeRun_65 (fun H locs hP hS => ?_)
      refine lv_aload_n hx hb d_MO_closeRun_66 rfl (lv_at hl 3 rfl) ?_
      refine r_get hx hb hC hP i_MO (44) (by decide) rfl rfl 14 (by decide) l_MO_35 rfl d_MO_closeRun_67 ?_
      refine lv_iconst (v := 3) hx hb d_MO_closeRun_70 (by decide) ?_
      refine lv_aload_n hx hb d_MO_closeRun_71 rfl (lv_at hl 3 rfl) ?_
      refine r_get hx hb hC hP i_MO (44) (by decide) rfl rfl 13 (by decide) l_MO_111 rfl d_MO_closeRun_72 ?_
      rw [show (su (su (su (su S 44 13 (nI q)) 53 0 ((S 53 0) - (S 52 (3 * q)))) 53 1 ((S 53 1) - (S 52 (3 * q + 1)))) 53 2 ((S 53 2) - (S 52 (3 * q + 2)))) 44 13 = nI q from by rw [su_cell _ _ _ (by decide), su_cell _ _ _ (by decide), su_cell _ _ _ (by decide), su_same]]
      refine lv_imul hx hb d_MO_closeRun_75 ?_
      refine lv_iload hx hb d_MO_closeRun_76 (lv_at hl 0 rfl) ?_
      refine lv_iadd hx hb d_MO_closeRun_78 ?_
      rw [show (3 * (nI q)) + 2 = nI (3 * q + 2) from (nI_m3 q 2)]
      refine r_ild hx hb hC hP (52) (by decide) rfl (3 * q + 2) rfl (by omega) (by decide) d_MO_closeRun_79 ?_
      rw [show (su (su (su (su S 44 13 (nI q)) 53 0 ((S 53 0) - (S 52 (3 * q)))) 53 1 ((S 53 1) - (S 52 (3 * q + 1)))) 53 2 ((S 53 2) - (S 52 (3 * q + 2)))) 52 (3 * q + 2) = S 52 (3 * q + 2) from by rw [su_cell _ _ _ (by decide), su_cell _ _ _ (by decide), su_cell _ _ _ (by decide), su_cell _ _ _ (by decide)]]
      refine lv_if_le (tgt := 86) hx hb d_MO_closeRun_80 (by decide) (fun c_80xx => ?_) (fun c_80xx => ?_)
      · refine lv_iinc (v := 3) (lv' := [(5, .int 3), (4, .int 1), (3, .int (S 44 10)), (0, .ref (gA G 44)), (1, .int bk), (2, .int mi)]) hx hb d_MO_closeRun_86 hl (k := 0) rfl (by decide) (by decide) rfl (fun ls hl => ?_)
        refine lv_goto (tgt := 36) hx hb d_MO_closeRun_89 (by decide) ?_
        refine lv_iload hx hb d_MO_closeRun_36 (lv_at hl 0 rfl) ?_
        refine lv_iconst (v := 3) hx hb d_MO_closeRun_38 (by decide) ?_
        refine lv_icmp_ge (tgt := 92) hx hb d_MO_closeRun_39 (by decide) (fun _ => ?_) (fun h => absurd h (by decide))
        refine lv_iload hx hb d_MO_closeRun_92 (lv_at hl 1 rfl) ?_
        refine lv_if_eq (tgt := 118) hx hb d_MO_closeRun_94 (by decide) (fun h => absurd h (by decide)) (fun _ => ?_)
        refine lv_aload_n hx hb d_MO_closeRun_97 rfl (lv_at hl 3 rfl) ?_
        refine lv_iconst (v := 4) hx hb d_MO_closeRun_98 (by decide) ?_
        refine lv_aload_n hx hb d_MO_closeRun_99 rfl (lv_at hl 3 rfl) ?_
        refine r_get hx hb hC hP i_MO (44) (by decide) rfl rfl 11 (by decide) l_MO_92 rfl d_MO_closeRun_100 ?_
        rw [show (su (su (su (su S 44 13 (nI q)) 53 0 ((S 53 0) - (S 52 (3 * q)))) 53 1 ((S 53 1) - (S 52 (3 * q + 1)))) 53 2 ((S 53 2) - (S 52 (3 * q + 2)))) 44 11 = S 44 11 from by rw [su_cell _ _ _ (by decide), su_cell _ _ _ (by decide), su_cell _ _ _ (by decide), su_int _ _ _ (by decide)]]
        rw [show S 44 11 = 0 from he]
        refine lv_iconst (v := 4) hx hb d_MO_closeRun_103 (by decide) ?_
        refine lv_icmp_ne (tgt := 114) hx hb d_MO_closeRun_104 (by decide) (fun _ => ?_) (fun h => absurd h (by decide))
        refine lv_iconst (v := 0) hx hb d_MO_closeRun_114 (by decide) ?_
        refine r_v hC hS (r_runV (np := 2) (As := [.int 4, .int 0]) (rest := []) hx hb hml hC hP hS (by decide) rfl rfl (m_MO_raise l G (su (su (su (su S 44 13 (nI q)) 53 0 ((S 53 0) - (S 52 (3 * q)))) 53 1 ((S 53 1) - (S 52 (3 * q + 1)))) 53 2 ((S 53 2) - (S 52 (3 * q + 2)))) n (by omega) (by rw [su_cell _ _ _ (by decide), su_cell _ _ _ (by decide), su_cell _ _ _ (by decide), su_int _ _ _ (by decide)]; exact hn) 4 0) l_MO_124 im_MO_raise se_MO_raise in_MO c_MO_raise_in (by decide +kernel) ⟨by simp only [rmF]; omega, by simp only [rmF]; omega⟩ rfl hl.1 (Nat.le_of_ble_eq_true rfl) d_MO_closeRun_115 ⟨Nat.le_refl _, Nat.le_refl _⟩) (fun S_115 H locs hw hP hS => ?_)
        rw [hw] at hP
        refine lv_aload_n hx hb d_MO_closeRun_118 rfl (lv_at hl 3 rfl) ?_
        refine r_get hx hb hC hP i_MO (44) (by decide) rfl rfl 11 (by decide) l_MO_92 rfl d_MO_closeRun_119 ?_
        rw [show (moRaise (su (su (su (su S 44 13 (nI q)) 53 0 ((S 53 0) - (S 52 (3 * q)))) 53 1 ((S 53 1) - (S 52 (3 * q + 1)))) 53 2 ((S 53 2) - (S 52 (3 * q + 2)))) n 4 0) 44 11 = 4 from (moRaise_11 _ _ _ _)]
        refine lv_iconst (v := 4) hx hb d_MO_closeRun_122 (by decide) ?_
        refine lv_icmp_ne (tgt := 132) hx hb d_MO_closeRun_123 (by decide) (fun h => absurd h (by decide)) (fun _ => ?_)
        refine lv_aload_n hx hb d_MO_closeRun_126 rfl (lv_at hl 3 rfl) ?_
        refine lv_iload_n hx hb d_MO_closeRun_127 rfl (lv_at hl 5 rfl) ?_
        refine r_put hx hb hC hP hS i_MO t_MO t_MO_ok n_MO (44) (by decide) rfl rfl 10 (by decide) l_MO_121 rfl rfl rfl (Nat.le_of_ble_eq_true rfl) d_MO_closeRun_128 (fun H locs hP hS => ?_)
        exact e_v hx hb hr hlk hC hP hS d_MO_closeRun_131 rfl
      · refine lv_iconst (v := 1) hx hb d_MO_closeRun_83 (by decide) ?_
        refine lv_istore (lv' := [(4, .int 1), (5, .int 2), (3, .int (S 44 10)), (0, .ref (gA G 44)), (1, .int bk), (2, .int mi)]) hx hb d_MO_closeRun_84 hl (by decide) rfl (fun ls hl => ?_)
        refine lv_iinc (v := 3) (lv' := [(5, .int 3), (4, .int 1), (3, .int (S 44 10)), (0, .ref (gA G 44)), (1, .int bk), (2, .int mi)]) hx hb d_MO_closeRun_86 hl (k := 1) rfl (by decide) (by decide) rfl (fun ls hl => ?_)
        refine lv_goto (tgt := 36) hx hb d_MO_closeRun_89 (by decide) ?_
        refine lv_iload hx hb d_MO_closeRun_36 (lv_at hl 0 rfl) ?_
        refine lv_iconst (v := 3) hx hb d_MO_closeRun_38 (by decide) ?_
        refine lv_icmp_ge (tgt := 92) hx hb d_MO_closeRun_39 (by decide) (fun _ => ?_) (fun h => absurd h (by decide))
        refine lv_iload hx hb d_MO_closeRun_92 (lv_at hl 1 rfl) ?_
        refine lv_if_eq (tgt := 118) hx hb d_MO_closeRun_94 (by decide) (fun h => absurd h (by decide)) (fun _ => ?_)
        refine lv_aload_n hx hb d_MO_closeRun_97 rfl (lv_at hl 3 rfl) ?_
        refine lv_iconst (v := 4) hx hb d_MO_closeRun_98 (by decide) ?_
        refine lv_aload_n hx hb d_MO_closeRun_99 rfl (lv_at hl 3 rfl) ?_
        refine r_get hx hb hC hP i_MO (44) (by decide) rfl rfl 11 (by decide) l_MO_92 rfl d_MO_closeRun_100 ?_
        rw [show (su (su (su (su S 44 13 (nI q)) 53 0 ((S 53 0) - (S 52 (3 * q)))) 53 1 ((S 53 1) - (S 52 (3 * q + 1)))) 53 2 ((S 53 2) - (S 52 (3 * q + 2)))) 44 11 = S 44 11 from by rw [su_cell _ _ _ (by decide), su_cell _ _ _ (by decide), su_cell _ _ _ (by decide), su_int _ _ _ (by decide)]]
        rw [show S 44 11 = 0 from he]
        refine lv_iconst (v := 4) hx hb d_MO_closeRun_103 (by decide) ?_
        refine lv_icmp_ne (tgt := 114) hx hb d_MO_closeRun_104 (by decide) (fun _ => ?_) (fun h => absurd h (by decide))
        refine lv_iconst (v := 0) hx hb d_MO_closeRun_114 (by decide) ?_
        refine r_v hC hS (r_runV (np := 2) (As := [.int 4, .int 0]) (rest := []) hx hb hml hC hP hS (by decide) rfl rfl (m_MO_raise l G (su (su (su (su S 44 13 (nI q)) 53 0 ((S 53 0) - (S 52 (3 * q)))) 53 1 ((S 53 1) - (S 52 (3 * q + 1)))) 53 2 ((S 53 2) - (S 52 (3 * q + 2)))) n (by omega) (by rw [su_cell _ _ _ (by decide), su_cell _ _ _ (by decide), su_cell _ _ _ (by decide), su_int _ _ _ (by decide)]; exact hn) 4 0) l_MO_124 im_MO_raise se_MO_raise in_MO c_MO_raise_in (by decide +kernel) ⟨by simp only [rmF]; omega, by simp only [rmF]; omega⟩ rfl hl.1 (Nat.le_of_ble_eq_true rfl) d_MO_closeRun_115 ⟨Nat.le_refl _, Nat.le_refl _⟩) (fun S_115 H locs hw hP hS => ?_)
        rw [hw] at hP
        refine lv_aload_n hx hb d_MO_closeRun_118 rfl (lv_at hl 3 rfl) ?_
        refine r_get hx hb hC hP i_MO (44) (by decide) rfl rfl 11 (by decide) l_MO_92 rfl d_MO_closeRun_119 ?_
        rw [show (moRaise (su (su (su (su S 44 13 (nI q)) 53 0 ((S 53 0) - (S 52 (3 * q)))) 53 1 ((S 53 1) - (S 52 (3 * q + 1)))) 53 2 ((S 53 2) - (S 52 (3 * q + 2)))) n 4 0) 44 11 = 4 from (moRaise_11 _ _ _ _)]
        refine lv_iconst (v := 4) hx hb d_MO_closeRun_122 (by decide) ?_
        refine lv_icmp_ne (tgt := 132) hx hb d_MO_closeRun_123 (by decide) (fun h => absurd h (by decide)) (fun _ => ?_)
        refine lv_aload_n hx hb d_MO_closeRun_126 rfl (lv_at hl 3 rfl) ?_
        refine lv_iload_n hx hb d_MO_closeRun_127 rfl (lv_at hl 5 rfl) ?_
        refine r_put hx hb hC hP hS i_MO t_MO t_MO_ok n_MO (44) (by decide) rfl rfl 10 (by decide) l_MO_121 rfl rfl rfl (Nat.le_of_ble_eq_true rfl) d_MO_closeRun_128 (fun H locs hP hS => ?_)
        exact e_v hx hb hr hlk hC hP hS d_MO_closeRun_131 rfl
  · refine lv_iconst (v := 1) hx hb d_MO_closeRun_83 (by decide) ?_
    refine lv_istore (lv' := [(4, .int 1), (5, .int 0), (3, .int (S 44 10)), (0, .ref (gA G 44)), (1, .int bk), (2, .int mi)]) hx hb d_MO_closeRun_84 hl (by decide) rfl (fun ls hl => ?_)
    refine lv_iinc (v := 1) (lv' := [(5, .int 1), (4, .int 1), (3, .int (S 44 10)), (0, .ref (gA G 44)), (1, .int bk), (2, .int mi)]) hx hb d_MO_closeRun_86 hl (k := 1) rfl (by decide) (by decide) rfl (fun ls hl => ?_)
    refine lv_goto (tgt := 36) hx hb d_MO_closeRun_89 (by decide) ?_
    refine lv_iload hx hb d_MO_closeRun_36 (lv_at hl 0 rfl) ?_
    refine lv_iconst (v := 3) hx hb d_MO_closeRun_38 (by decide) ?_
    refine lv_icmp_ge (tgt := 92) hx hb d_MO_closeRun_39 (by decide) (fun h => absurd h (by decide)) (fun _ => ?_)
    refine lv_aload_n hx hb d_MO_closeRun_42 rfl (lv_at hl 3 rfl) ?_
    refine r_get hx hb hC hP i_MO (44) (by decide) rfl rfl 15 (by decide) l_MO_38 rfl d_MO_closeRun_43 ?_
    refine lv_iload hx hb d_MO_closeRun_46 (lv_at hl 0 rfl) ?_
    refine lv_dup2_11 hx hb d_MO_closeRun_48 rfl rfl ?_
    refine r_ild hx hb hC hP (53) (by decide) rfl 1 rfl (by decide) (by decide) d_MO_closeRun_49 ?_
    rw [show (su (su S 44 13 (nI q)) 53 0 ((S 53 0) - (S 52 (3 * q)))) 53 1 = S 53 1 from by rw [su_int _ _ _ (by decide), su_cell _ _ _ (by decide)]]
    refine lv_aload_n hx hb d_MO_closeRun_50 rfl (lv_at hl 3 rfl) ?_
    refine r_get hx hb hC hP i_MO (44) (by decide) rfl rfl 14 (by decide) l_MO_35 rfl d_MO_closeRun_51 ?_
    refine lv_iconst (v := 3) hx hb d_MO_closeRun_54 (by decide) ?_
    refine lv_aload_n hx hb d_MO_closeRun_55 rfl (lv_at hl 3 rfl) ?_
    refine r_get hx hb hC hP i_MO (44) (by decide) rfl rfl 13 (by decide) l_MO_111 rfl d_MO_closeRun_56 ?_
    rw [show (su (su S 44 13 (nI q)) 53 0 ((S 53 0) - (S 52 (3 * q)))) 44 13 = nI q from by rw [su_cell _ _ _ (by decide), su_same]]
    refine lv_imul hx hb d_MO_closeRun_59 ?_
    refine lv_iload hx hb d_MO_closeRun_60 (lv_at hl 0 rfl) ?_
    refine lv_iadd hx hb d_MO_closeRun_62 ?_
    rw [show (3 * (nI q)) + 1 = nI (3 * q + 1) from (nI_m3 q 1)]
    refine r_ild hx hb hC hP (52) (by decide) rfl (3 * q + 1) rfl (by omega) (by decide) d_MO_closeRun_63 ?_
    rw [show (su (su S 44 13 (nI q)) 53 0 ((S 53 0) - (S 52 (3 * q)))) 52 (3 * q + 1) = S 52 (3 * q + 1) from by rw [su_cell _ _ _ (by decide), su_cell _ _ _ (by decide)]]
    refine lv_isub hx hb d_MO_closeRun_64 ?_
    refine r_ist hx hb hC hP hS (53) (by decide) (fun _ => rfl) 1 rfl (by decide) (by decide) d_MO_closeRun_65 (fun H locs hP hS => ?_)
    refine lv_aload_n hx hb d_MO_closeRun_66 rfl (lv_at hl 3 rfl) ?_
    refine r_get hx hb hC hP i_MO (44) (by decide) rfl rfl 14 (by decide) l_MO_35 rfl d_MO_closeRun_67 ?_
    refine lv_iconst (v := 3) hx hb d_MO_closeRun_70 (by decide) ?_
    refine lv_aload_n hx hb d_MO_closeRun_71 rfl (lv_at hl 3 rfl) ?_
    refine r_get hx hb hC hP i_MO (44) (by decide) rfl rfl 13 (by decide) l_MO_111 rfl d_MO_closeRun_72 ?_
    rw [show (su (su (su S 44 13 (nI q)) 53 0 ((S 53 0) - (S 52 (3 * q)))) 53 1 ((S 53 1) - (S 52 (3 * q + 1)))) 44 13 = nI q from by rw [su_cell _ _ _ (by decide), su_cell _ _ _ (by decide), su_same]]
    refine lv_imul hx hb d_MO_closeRun_75 ?_
    refine lv_iload hx hb d_MO_closeRun_76 (lv_at hl 0 rfl) ?_
    refine lv_iadd hx hb d_MO_closeRun_78 ?_
    rw [show (3 * (nI q)) + 1 = nI (3 * q + 1) from (nI_m3 q 1)]
    refine r_ild hx hb hC hP (52) (by decide) rfl (3 * q + 1) rfl (by omega) (by decide) d_MO_closeRun_79 ?_
    rw [show (su (su (su S 44 13 (nI q)) 53 0 ((S 53 0) - (S 52 (3 * q)))) 53 1 ((S 53 1) - (S 52 (3 * q + 1)))) 52 (3 * q + 1) = S 52 (3 * q + 1) from by rw [su_cell _ _ _ (by decide), su_cell _ _ _ (by decide), su_cell _ _ _ (by decide)]]
    refine lv_if_le (tgt := 86) hx hb d_MO_closeRun_80 (by decide) (fun c_80x => ?_) (fun c_80x => ?_)
    · refine lv_iinc (v := 2) (lv' := [(5, .int 2), (4, .int 1), (3, .int (S 44 10)), (0, .ref (gA G 44)), (1, .int bk), (2, .int mi)]) hx hb d_MO_closeRun_86 hl (k := 0) rfl (by decide) (by decide) rfl (fun ls hl => ?_)
      refine lv_goto (tgt := 36) hx hb d_MO_closeRun_89 (by decide) ?_
      refine lv_iload hx hb d_MO_closeRun_36 (lv_at hl 0 rfl) ?_
      refine lv_iconst (v := 3) hx hb d_MO_closeRun_38 (by decide) ?_
      refine lv_icmp_ge (tgt := 92) hx hb d_MO_closeRun_39 (by decide) (fun h => absurd h (by decide)) (fun _ => ?_)
      refine lv_aload_n hx hb d_MO_closeRun_42 rfl (lv_at hl 3 rfl) ?_
      refine r_get hx hb hC hP i_MO (44) (by decide) rfl rfl 15 (by decide) l_MO_38 rfl d_MO_closeRun_43 ?_
      refine lv_iload hx hb d_MO_closeRun_46 (lv_at hl 0 rfl) ?_
      refine lv_dup2_11 hx hb d_MO_closeRun_48 rfl rfl ?_
      refine r_ild hx hb hC hP (53) (by decide) rfl 2 rfl (by decide) (by decide) d_MO_closeRun_49 ?_
      rw [show (su (su (su S 44 13 (nI q)) 53 0 ((S 53 0) - (S 52 (3 * q)))) 53 1 ((S 53 1) - (S 52 (3 * q + 1)))) 53 2 = S 53 2 from by rw [su_int _ _ _ (by decide), su_int _ _ _ (by decide), su_cell _ _ _ (by decide)]]
      refine lv_aload_n hx hb d_MO_closeRun_50 rfl (lv_at hl 3 rfl) ?_
      refine r_get hx hb hC hP i_MO (44) (by decide) rfl rfl 14 (by decide) l_MO_35 rfl d_MO_closeRun_51 ?_
      refine lv_iconst (v := 3) hx hb d_MO_closeRun_54 (by decide) ?_
      refine lv_aload_n hx hb d_MO_closeRun_55 rfl (lv_at hl 3 rfl) ?_
      refine r_get hx hb hC hP i_MO (44) (by decide) rfl rfl 13 (by decide) l_MO_111 rfl d_MO_closeRun_56 ?_
      rw [show (su (su (su S 44 13 (nI q)) 53 0 ((S 53 0) - (S 52 (3 * q)))) 53 1 ((S 53 1) - (S 52 (3 * q + 1)))) 44 13 = nI q from by rw [su_cell _ _ _ (by decide), su_cell _ _ _ (by decide), su_same]]
      refine lv_imul hx hb d_MO_closeRun_59 ?_
      refine lv_iload hx hb d_MO_closeRun_60 (lv_at hl 0 rfl) ?_
      refine lv_iadd hx hb d_MO_closeRun_62 ?_
      rw [show (3 * (nI q)) + 2 = nI (3 * q + 2) from (nI_m3 q 2)]
      refine r_ild hx hb hC hP (52) (by decide) rfl (3 * q + 2) rfl (by omega) (by decide) d_MO_closeRun_63 ?_
      rw [show (su (su (su S 44 13 (nI q)) 53 0 ((S 53 0) - (S 52 (3 * q)))) 53 1 ((S 53 1) - (S 52 (3 * q + 1)))) 52 (3 * q + 2) = S 52 (3 * q + 2) from by rw [su_cell _ _ _ (by decide), su_cell _ _ _ (by decide), su_cell _ _ _ (by decide)]]
      refine lv_isub hx hb d_MO_closeRun_64 ?_
      refine r_ist hx hb hC hP hS (53) (by decide) (fun _ => rfl) 2 rfl (by decide) (by decide) d_MO_closeRun_65 (fun H locs hP hS => ?_)
      refine lv_aload_n hx hb d_MO_closeRun_66 rfl (lv_at hl 3 rfl) ?_
      refine r_get hx hb hC hP i_MO (44) (by decide) rfl rfl 14 (by decide) l_MO_35 rfl d_MO_closeRun_67 ?_
      refine lv_iconst (v := 3) hx hb d_MO_closeRun_70 (by decide) ?_
      refine lv_aload_n hx hb d_MO_closeRun_71 rfl (lv_at hl 3 rfl) ?_
      refine r_get hx hb hC hP i_MO (44) (by decide) rfl rfl 13 (by decide) l_MO_111 rfl d_MO_closeRun_72 ?_
      rw [show (su (su (su (su S 44 13 (nI q)) 53 0 ((S 53 0) - (S 52 (3 * q)))) 53 1 ((S 53 1) - (S 52 (3 * q + 1)))) 53 2 ((S 53 2) - (S 52 (3 * q + 2)))) 44 13 = nI q from by rw [su_cell _ _ _ (by decide), su_cell _ _ _ (by decide), su_cell _ _ _ (by decide), su_same]]
      refine lv_imul hx hb d_MO_closeRun_75 ?_
      refine lv_iload hx hb d_MO_closeRun_76 (lv_at hl 0 rfl) ?_
      refine lv_iadd hx hb d_MO_closeRun_78 ?_
      rw [show (3 * (nI q)) + 2 = nI (3 * q + 2) from (nI_m3 q 2)]
      refine r_ild hx hb hC hP (52) (by decide) rfl (3 * q + 2) rfl (by omega) (by decide) d_MO_closeRun_79 ?_
      rw [show (su (su (su (su S 44 13 (nI q)) 53 0 ((S 53 0) - (S 52 (3 * q)))) 53 1 ((S 53 1) - (S 52 (3 * q + 1)))) 53 2 ((S 53 2) - (S 52 (3 * q + 2)))) 52 (3 * q + 2) = S 52 (3 * q + 2) from by rw [su_cell _ _ _ (by decide), su_cell _ _ _ (by decide), su_cell _ _ _ (by decide), su_cell _ _ _ (by decide)]]
      refine lv_if_le (tgt := 86) hx hb d_MO_closeRun_80 (by decide) (fun c_80xx => ?_) (fun c_80xx => ?_)
      · refine lv_iinc (v := 3) (lv' := [(5, .int 3), (4, .int 1), (3, .int (S 44 10)), (0, .ref (gA G 44)), (1, .int bk), (2, .int mi)]) hx hb d_MO_closeRun_86 hl (k := 0) rfl (by decide) (by decide) rfl (fun ls hl => ?_)
        refine lv_goto (tgt := 36) hx hb d_MO_closeRun_89 (by decide) ?_
        refine lv_iload hx hb d_MO_closeRun_36 (lv_at hl 0 rfl) ?_
        refine lv_iconst (v := 3) hx hb d_MO_closeRun_38 (by decide) ?_
        refine lv_icmp_ge (tgt := 92) hx hb d_MO_closeRun_39 (by decide) (fun _ => ?_) (fun h => absurd h (by decide))
        refine lv_iload hx hb d_MO_closeRun_92 (lv_at hl 1 rfl) ?_
        refine lv_if_eq (tgt := 118) hx hb d_MO_closeRun_94 (by decide) (fun h => absurd h (by decide)) (fun _ => ?_)
        refine lv_aload_n hx hb d_MO_closeRun_97 rfl (lv_at hl 3 rfl) ?_
        refine lv_iconst (v := 4) hx hb d_MO_closeRun_98 (by decide) ?_
        refine lv_aload_n hx hb d_MO_closeRun_99 rfl (lv_at hl 3 rfl) ?_
        refine r_get hx hb hC hP i_MO (44) (by decide) rfl rfl 11 (by decide) l_MO_92 rfl d_MO_closeRun_100 ?_
        rw [show (su (su (su (su S 44 13 (nI q)) 53 0 ((S 53 0) - (S 52 (3 * q)))) 53 1 ((S 53 1) - (S 52 (3 * q + 1)))) 53 2 ((S 53 2) - (S 52 (3 * q + 2)))) 44 11 = S 44 11 from by rw [su_cell _ _ _ (by decide), su_cell _ _ _ (by decide), su_cell _ _ _ (by decide), su_int _ _ _ (by decide)]]
        rw [show S 44 11 = 0 from he]
        refine lv_iconst (v := 4) hx hb d_MO_closeRun_103 (by decide) ?_
        refine lv_icmp_ne (tgt := 114) hx hb d_MO_closeRun_104 (by decide) (fun _ => ?_) (fun h => absurd h (by decide))
        refine lv_iconst (v := 0) hx hb d_MO_closeRun_114 (by decide) ?_
        refine r_v hC hS (r_runV (np := 2) (As := [.int 4, .int 0]) (rest := []) hx hb hml hC hP hS (by decide) rfl rfl (m_MO_raise l G (su (su (su (su S 44 13 (nI q)) 53 0 ((S 53 0) - (S 52 (3 * q)))) 53 1 ((S 53 1) - (S 52 (3 * q + 1)))) 53 2 ((S 53 2) - (S 52 (3 * q + 2)))) n (by omega) (by rw [su_cell _ _ _ (by decide), su_cell _ _ _ (by decide), su_cell _ _ _ (by decide), su_int _ _ _ (by decide)]; exact hn) 4 0) l_MO_124 im_MO_raise se_MO_raise in_MO c_MO_raise_in (by decide +kernel) ⟨by simp only [rmF]; omega, by simp only [rmF]; omega⟩ rfl hl.1 (Nat.le_of_ble_eq_true rfl) d_MO_closeRun_115 ⟨Nat.le_refl _, Nat.le_refl _⟩) (fun S_115 H locs hw hP hS => ?_)
        rw [hw] at hP
        refine lv_aload_n hx hb d_MO_closeRun_118 rfl (lv_at hl 3 rfl) ?_
        refine r_get hx hb hC hP i_MO (44) (by decide) rfl rfl 11 (by decide) l_MO_92 rfl d_MO_closeRun_119 ?_
        rw [show (moRaise (su (su (su (su S 44 13 (nI q)) 53 0 ((S 53 0) - (S 52 (3 * q)))) 53 1 ((S 53 1) - (S 52 (3 * q + 1)))) 53 2 ((S 53 2) - (S 52 (3 * q + 2)))) n 4 0) 44 11 = 4 from (moRaise_11 _ _ _ _)]
        refine lv_iconst (v := 4) hx hb d_MO_closeRun_122 (by decide) ?_
        refine lv_icmp_ne (tgt := 132) hx hb d_MO_closeRun_123 (by decide) (fun h => absurd h (by decide)) (fun _ => ?_)
        refine lv_aload_n hx hb d_MO_closeRun_126 rfl (lv_at hl 3 rfl) ?_
        refine lv_iload_n hx hb d_MO_closeRun_127 rfl (lv_at hl 5 rfl) ?_
        refine r_put hx hb hC hP hS i_MO t_MO t_MO_ok n_MO (44) (by decide) rfl rfl 10 (by decide) l_MO_121 rfl rfl rfl (Nat.le_of_ble_eq_true rfl) d_MO_closeRun_128 (fun H locs hP hS => ?_)
        exact e_v hx hb hr hlk hC hP hS d_MO_closeRun_131 rfl
      · refine lv_iconst (v := 1) hx hb d_MO_closeRun_83 (by decide) ?_
        refine lv_istore (lv' := [(4, .int 1), (5, .int 2), (3, .int (S 44 10)), (0, .ref (gA G 44)), (1, .int bk), (2, .int mi)]) hx hb d_MO_closeRun_84 hl (by decide) rfl (fun ls hl => ?_)
        refine lv_iinc (v := 3) (lv' := [(5, .int 3), (4, .int 1), (3, .int (S 44 10)), (0, .ref (gA G 44)), (1, .int bk), (2, .int mi)]) hx hb d_MO_closeRun_86 hl (k := 1) rfl (by decide) (by decide) rfl (fun ls hl => ?_)
        refine lv_goto (tgt := 36) hx hb d_MO_closeRun_89 (by decide) ?_
        refine lv_iload hx hb d_MO_closeRun_36 (lv_at hl 0 rfl) ?_
        refine lv_iconst (v := 3) hx hb d_MO_closeRun_38 (by decide) ?_
        refine lv_icmp_ge (tgt := 92) hx hb d_MO_closeRun_39 (by decide) (fun _ => ?_) (fun h => absurd h (by decide))
        refine lv_iload hx hb d_MO_closeRun_92 (lv_at hl 1 rfl) ?_
        refine lv_if_eq (tgt := 118) hx hb d_MO_closeRun_94 (by decide) (fun h => absurd h (by decide)) (fun _ => ?_)
        refine lv_aload_n hx hb d_MO_closeRun_97 rfl (lv_at hl 3 rfl) ?_
        refine lv_iconst (v := 4) hx hb d_MO_closeRun_98 (by decide) ?_
        refine lv_aload_n hx hb d_MO_closeRun_99 rfl (lv_at hl 3 rfl) ?_
        refine r_get hx hb hC hP i_MO (44) (by decide) rfl rfl 11 (by decide) l_MO_92 rfl d_MO_closeRun_100 ?_
        rw [show (su (su (su (su S 44 13 (nI q)) 53 0 ((S 53 0) - (S 52 (3 * q)))) 53 1 ((S 53 1) - (S 52 (3 * q + 1)))) 53 2 ((S 53 2) - (S 52 (3 * q + 2)))) 44 11 = S 44 11 from by rw [su_cell _ _ _ (by decide), su_cell _ _ _ (by decide), su_cell _ _ _ (by decide), su_int _ _ _ (by decide)]]
        rw [show S 44 11 = 0 from he]
        refine lv_iconst (v := 4) hx hb d_MO_closeRun_103 (by decide) ?_
        refine lv_icmp_ne (tgt := 114) hx hb d_MO_closeRun_104 (by decide) (fun _ => ?_) (fun h => absurd h (by decide))
        refine lv_iconst (v := 0) hx hb d_MO_closeRun_114 (by decide) ?_
        refine r_v hC hS (r_runV (np := 2) (As := [.int 4, .int 0]) (rest := []) hx hb hml hC hP hS (by decide) rfl rfl (m_MO_raise l G (su (su (su (su S 44 13 (nI q)) 53 0 ((S 53 0) - (S 52 (3 * q)))) 53 1 ((S 53 1) - (S 52 (3 * q + 1)))) 53 2 ((S 53 2) - (S 52 (3 * q + 2)))) n (by omega) (by rw [su_cell _ _ _ (by decide), su_cell _ _ _ (by decide), su_cell _ _ _ (by decide), su_int _ _ _ (by decide)]; exact hn) 4 0) l_MO_124 im_MO_raise se_MO_raise in_MO c_MO_raise_in (by decide +kernel) ⟨by simp only [rmF]; omega, by simp only [rmF]; omega⟩ rfl hl.1 (Nat.le_of_ble_eq_true rfl) d_MO_closeRun_115 ⟨Nat.le_refl _, Nat.le_refl _⟩) (fun S_115 H locs hw hP hS => ?_)
        rw [hw] at hP
        refine lv_aload_n hx hb d_MO_closeRun_118 rfl (lv_at hl 3 rfl) ?_
        refine r_get hx hb hC hP i_MO (44) (by decide) rfl rfl 11 (by decide) l_MO_92 rfl d_MO_closeRun_119 ?_
        rw [show (moRaise (su (su (su (su S 44 13 (nI q)) 53 0 ((S 53 0) - (S 52 (3 * q)))) 53 1 ((S 53 1) - (S 52 (3 * q + 1)))) 53 2 ((S 53 2) - (S 52 (3 * q + 2)))) n 4 0) 44 11 = 4 from (moRaise_11 _ _ _ _)]
        refine lv_iconst (v := 4) hx hb d_MO_closeRun_122 (by decide) ?_
        refine lv_icmp_ne (tgt := 132) hx hb d_MO_closeRun_123 (by decide) (fun h => absurd h (by decide)) (fun _ => ?_)
        refine lv_aload_n hx hb d_MO_closeRun_126 rfl (lv_at hl 3 rfl) ?_
        refine lv_iload_n hx hb d_MO_closeRun_127 rfl (lv_at hl 5 rfl) ?_
        refine r_put hx hb hC hP hS i_MO t_MO t_MO_ok n_MO (44) (by decide) rfl rfl 10 (by decide) l_MO_121 rfl rfl rfl (Nat.le_of_ble_eq_true rfl) d_MO_closeRun_128 (fun H locs hP hS => ?_)
        exact e_v hx hb hr hlk hC hP hS d_MO_closeRun_131 rfl
    · refine lv_iconst (v := 1) hx hb d_MO_closeRun_83 (by decide) ?_
      refine lv_istore (lv' := [(4, .int 1), (5, .int 1), (3, .int (S 44 10)), (0, .ref (gA G 44)), (1, .int bk), (2, .int mi)]) hx hb d_MO_closeRun_84 hl (by decide) rfl (fun ls hl => ?_)
      refine lv_iinc (v := 2) (lv' := [(5, .int 2), (4, .int 1), (3, .int (S 44 10)), (0, .ref (gA G 44)), (1, .int bk), (2, .int mi)]) hx hb d_MO_closeRun_86 hl (k := 1) rfl (by decide) (by decide) rfl (fun ls hl => ?_)
      refine lv_goto (tgt := 36) hx hb d_MO_closeRun_89 (by decide) ?_
      refine lv_iload hx hb d_MO_closeRun_36 (lv_at hl 0 rfl) ?_
      refine lv_iconst (v := 3) hx hb d_MO_closeRun_38 (by decide) ?_
      refine lv_icmp_ge (tgt := 92) hx hb d_MO_closeRun_39 (by decide) (fun h => absurd h (by decide)) (fun _ => ?_)
      refine lv_aload_n hx hb d_MO_closeRun_42 rfl (lv_at hl 3 rfl) ?_
      refine r_get hx hb hC hP i_MO (44) (by decide) rfl rfl 15 (by decide) l_MO_38 rfl d_MO_closeRun_43 ?_
      refine lv_iload hx hb d_MO_closeRun_46 (lv_at hl 0 rfl) ?_
      refine lv_dup2_11 hx hb d_MO_closeRun_48 rfl rfl ?_
      refine r_ild hx hb hC hP (53) (by decide) rfl 2 rfl (by decide) (by decide) d_MO_closeRun_49 ?_
      rw [show (su (su (su S 44 13 (nI q)) 53 0 ((S 53 0) - (S 52 (3 * q)))) 53 1 ((S 53 1) - (S 52 (3 * q + 1)))) 53 2 = S 53 2 from by rw [su_int _ _ _ (by decide), su_int _ _ _ (by decide), su_cell _ _ _ (by decide)]]
      refine lv_aload_n hx hb d_MO_closeRun_50 rfl (lv_at hl 3 rfl) ?_
      refine r_get hx hb hC hP i_MO (44) (by decide) rfl rfl 14 (by decide) l_MO_35 rfl d_MO_closeRun_51 ?_
      refine lv_iconst (v := 3) hx hb d_MO_closeRun_54 (by decide) ?_
      refine lv_aload_n hx hb d_MO_closeRun_55 rfl (lv_at hl 3 rfl) ?_
      refine r_get hx hb hC hP i_MO (44) (by decide) rfl rfl 13 (by decide) l_MO_111 rfl d_MO_closeRun_56 ?_
      rw [show (su (su (su S 44 13 (nI q)) 53 0 ((S 53 0) - (S 52 (3 * q)))) 53 1 ((S 53 1) - (S 52 (3 * q + 1)))) 44 13 = nI q from by rw [su_cell _ _ _ (by decide), su_cell _ _ _ (by decide), su_same]]
      refine lv_imul hx hb d_MO_closeRun_59 ?_
      refine lv_iload hx hb d_MO_closeRun_60 (lv_at hl 0 rfl) ?_
      refine lv_iadd hx hb d_MO_closeRun_62 ?_
      rw [show (3 * (nI q)) + 2 = nI (3 * q + 2) from (nI_m3 q 2)]
      refine r_ild hx hb hC hP (52) (by decide) rfl (3 * q + 2) rfl (by omega) (by decide) d_MO_closeRun_63 ?_
      rw [show (su (su (su S 44 13 (nI q)) 53 0 ((S 53 0) - (S 52 (3 * q)))) 53 1 ((S 53 1) - (S 52 (3 * q + 1)))) 52 (3 * q + 2) = S 52 (3 * q + 2) from by rw [su_cell _ _ _ (by decide), su_cell _ _ _ (by decide), su_cell _ _ _ (by decide)]]
      refine lv_isub hx hb d_MO_closeRun_64 ?_
      refine r_ist hx hb hC hP hS (53) (by decide) (fun _ => rfl) 2 rfl (by decide) (by decide) d_MO_closeRun_65 (fun H locs hP hS => ?_)
      refine lv_aload_n hx hb d_MO_closeRun_66 rfl (lv_at hl 3 rfl) ?_
      refine r_get hx hb hC hP i_MO (44) (by decide) rfl rfl 14 (by decide) l_MO_35 rfl d_MO_closeRun_67 ?_
      refine lv_iconst (v := 3) hx hb d_MO_closeRun_70 (by decide) ?_
      refine lv_aload_n hx hb d_MO_closeRun_71 rfl (lv_at hl 3 rfl) ?_
      refine r_get hx hb hC hP i_MO (44) (by decide) rfl rfl 13 (by decide) l_MO_111 rfl d_MO_closeRun_72 ?_
      rw [show (su (su (su (su S 44 13 (nI q)) 53 0 ((S 53 0) - (S 52 (3 * q)))) 53 1 ((S 53 1) - (S 52 (3 * q + 1)))) 53 2 ((S 53 2) - (S 52 (3 * q + 2)))) 44 13 = nI q from by rw [su_cell _ _ _ (by decide), su_cell _ _ _ (by decide), su_cell _ _ _ (by decide), su_same]]
      refine lv_imul hx hb d_MO_closeRun_75 ?_
      refine lv_iload hx hb d_MO_closeRun_76 (lv_at hl 0 rfl) ?_
      refine lv_iadd hx hb d_MO_closeRun_78 ?_
      rw [show (3 * (nI q)) + 2 = nI (3 * q + 2) from (nI_m3 q 2)]
      refine r_ild hx hb hC hP (52) (by decide) rfl (3 * q + 2) rfl (by omega) (by decide) d_MO_closeRun_79 ?_
      rw [show (su (su (su (su S 44 13 (nI q)) 53 0 ((S 53 0) - (S 52 (3 * q)))) 53 1 ((S 53 1) - (S 52 (3 * q + 1)))) 53 2 ((S 53 2) - (S 52 (3 * q + 2)))) 52 (3 * q + 2) = S 52 (3 * q + 2) from by rw [su_cell _ _ _ (by decide), su_cell _ _ _ (by decide), su_cell _ _ _ (by decide), su_cell _ _ _ (by decide)]]
      refine lv_if_le (tgt := 86) hx hb d_MO_closeRun_80 (by decide) (fun c_80xx => ?_) (fun c_80xx => ?_)
      · refine lv_iinc (v := 3) (lv' := [(5, .int 3), (4, .int 1), (3, .int (S 44 10)), (0, .ref (gA G 44)), (1, .int bk), (2, .int mi)]) hx hb d_MO_closeRun_86 hl (k := 0) rfl (by decide) (by decide) rfl (fun ls hl => ?_)
        refine lv_goto (tgt := 36) hx hb d_MO_closeRun_89 (by decide) ?_
        refine lv_iload hx hb d_MO_closeRun_36 (lv_at hl 0 rfl) ?_
        refine lv_iconst (v := 3) hx hb d_MO_closeRun_38 (by decide) ?_
        refine lv_icmp_ge (tgt := 92) hx hb d_MO_closeRun_39 (by decide) (fun _ => ?_) (fun h => absurd h (by decide))
        refine lv_iload hx hb d_MO_closeRun_92 (lv_at hl 1 rfl) ?_
        refine lv_if_eq (tgt := 118) hx hb d_MO_closeRun_94 (by decide) (fun h => absurd h (by decide)) (fun _ => ?_)
        refine lv_aload_n hx hb d_MO_closeRun_97 rfl (lv_at hl 3 rfl) ?_
        refine lv_iconst (v := 4) hx hb d_MO_closeRun_98 (by decide) ?_
        refine lv_aload_n hx hb d_MO_closeRun_99 rfl (lv_at hl 3 rfl) ?_
        refine r_get hx hb hC hP i_MO (44) (by decide) rfl rfl 11 (by decide) l_MO_92 rfl d_MO_closeRun_100 ?_
        rw [show (su (su (su (su S 44 13 (nI q)) 53 0 ((S 53 0) - (S 52 (3 * q)))) 53 1 ((S 53 1) - (S 52 (3 * q + 1)))) 53 2 ((S 53 2) - (S 52 (3 * q + 2)))) 44 11 = S 44 11 from by rw [su_cell _ _ _ (by decide), su_cell _ _ _ (by decide), su_cell _ _ _ (by decide), su_int _ _ _ (by decide)]]
        rw [show S 44 11 = 0 from he]
        refine lv_iconst (v := 4) hx hb d_MO_closeRun_103 (by decide) ?_
        refine lv_icmp_ne (tgt := 114) hx hb d_MO_closeRun_104 (by decide) (fun _ => ?_) (fun h => absurd h (by decide))
        refine lv_iconst (v := 0) hx hb d_MO_closeRun_114 (by decide) ?_
        refine r_v hC hS (r_runV (np := 2) (As := [.int 4, .int 0]) (rest := []) hx hb hml hC hP hS (by decide) rfl rfl (m_MO_raise l G (su (su (su (su S 44 13 (nI q)) 53 0 ((S 53 0) - (S 52 (3 * q)))) 53 1 ((S 53 1) - (S 52 (3 * q + 1)))) 53 2 ((S 53 2) - (S 52 (3 * q + 2)))) n (by omega) (by rw [su_cell _ _ _ (by decide), su_cell _ _ _ (by decide), su_cell _ _ _ (by decide), su_int _ _ _ (by decide)]; exact hn) 4 0) l_MO_124 im_MO_raise se_MO_raise in_MO c_MO_raise_in (by decide +kernel) ⟨by simp only [rmF]; omega, by simp only [rmF]; omega⟩ rfl hl.1 (Nat.le_of_ble_eq_true rfl) d_MO_closeRun_115 ⟨Nat.le_refl _, Nat.le_refl _⟩) (fun S_115 H locs hw hP hS => ?_)
        rw [hw] at hP
        refine lv_aload_n hx hb d_MO_closeRun_118 rfl (lv_at hl 3 rfl) ?_
        refine r_get hx hb hC hP i_MO (44) (by decide) rfl rfl 11 (by decide) l_MO_92 rfl d_MO_closeRun_119 ?_
        rw [show (moRaise (su (su (su (su S 44 13 (nI q)) 53 0 ((S 53 0) - (S 52 (3 * q)))) 53 1 ((S 53 1) - (S 52 (3 * q + 1)))) 53 2 ((S 53 2) - (S 52 (3 * q + 2)))) n 4 0) 44 11 = 4 from (moRaise_11 _ _ _ _)]
        refine lv_iconst (v := 4) hx hb d_MO_closeRun_122 (by decide) ?_
        refine lv_icmp_ne (tgt := 132) hx hb d_MO_closeRun_123 (by decide) (fun h => absurd h (by decide)) (fun _ => ?_)
        refine lv_aload_n hx hb d_MO_closeRun_126 rfl (lv_at hl 3 rfl) ?_
        refine lv_iload_n hx hb d_MO_closeRun_127 rfl (lv_at hl 5 rfl) ?_
        refine r_put hx hb hC hP hS i_MO t_MO t_MO_ok n_MO (44) (by decide) rfl rfl 10 (by decide) l_MO_121 rfl rfl rfl (Nat.le_of_ble_eq_true rfl) d_MO_closeRun_128 (fun H locs hP hS => ?_)
        exact e_v hx hb hr hlk hC hP hS d_MO_closeRun_131 rfl
      · refine lv_iconst (v := 1) hx hb d_MO_closeRun_83 (by decide) ?_
        refine lv_istore (lv' := [(4, .int 1), (5, .int 2), (3, .int (S 44 10)), (0, .ref (gA G 44)), (1, .int bk), (2, .int mi)]) hx hb d_MO_closeRun_84 hl (by decide) rfl (fun ls hl => ?_)
        refine lv_iinc (v := 3) (lv' := [(5, .int 3), (4, .int 1), (3, .int (S 44 10)), (0, .ref (gA G 44)), (1, .int bk), (2, .int mi)]) hx hb d_MO_closeRun_86 hl (k := 1) rfl (by decide) (by decide) rfl (fun ls hl => ?_)
        refine lv_goto (tgt := 36) hx hb d_MO_closeRun_89 (by decide) ?_
        refine lv_iload hx hb d_MO_closeRun_36 (lv_at hl 0 rfl) ?_
        refine lv_iconst (v := 3) hx hb d_MO_closeRun_38 (by decide) ?_
        refine lv_icmp_ge (tgt := 92) hx hb d_MO_closeRun_39 (by decide) (fun _ => ?_) (fun h => absurd h (by decide))
        refine lv_iload hx hb d_MO_closeRun_92 (lv_at hl 1 rfl) ?_
        refine lv_if_eq (tgt := 118) hx hb d_MO_closeRun_94 (by decide) (fun h => absurd h (by decide)) (fun _ => ?_)
        refine lv_aload_n hx hb d_MO_closeRun_97 rfl (lv_at hl 3 rfl) ?_
        refine lv_iconst (v := 4) hx hb d_MO_closeRun_98 (by decide) ?_
        refine lv_aload_n hx hb d_MO_closeRun_99 rfl (lv_at hl 3 rfl) ?_
        refine r_get hx hb hC hP i_MO (44) (by decide) rfl rfl 11 (by decide) l_MO_92 rfl d_MO_closeRun_100 ?_
        rw [show (su (su (su (su S 44 13 (nI q)) 53 0 ((S 53 0) - (S 52 (3 * q)))) 53 1 ((S 53 1) - (S 52 (3 * q + 1)))) 53 2 ((S 53 2) - (S 52 (3 * q + 2)))) 44 11 = S 44 11 from by rw [su_cell _ _ _ (by decide), su_cell _ _ _ (by decide), su_cell _ _ _ (by decide), su_int _ _ _ (by decide)]]
        rw [show S 44 11 = 0 from he]
        refine lv_iconst (v := 4) hx hb d_MO_closeRun_103 (by decide) ?_
        refine lv_icmp_ne (tgt := 114) hx hb d_MO_closeRun_104 (by decide) (fun _ => ?_) (fun h => absurd h (by decide))
        refine lv_iconst (v := 0) hx hb d_MO_closeRun_114 (by decide) ?_
        refine r_v hC hS (r_runV (np := 2) (As := [.int 4, .int 0]) (rest := []) hx hb hml hC hP hS (by decide) rfl rfl (m_MO_raise l G (su (su (su (su S 44 13 (nI q)) 53 0 ((S 53 0) - (S 52 (3 * q)))) 53 1 ((S 53 1) - (S 52 (3 * q + 1)))) 53 2 ((S 53 2) - (S 52 (3 * q + 2)))) n (by omega) (by rw [su_cell _ _ _ (by decide), su_cell _ _ _ (by decide), su_cell _ _ _ (by decide), su_int _ _ _ (by decide)]; exact hn) 4 0) l_MO_124 im_MO_raise se_MO_raise in_MO c_MO_raise_in (by decide +kernel) ⟨by simp only [rmF]; omega, by simp only [rmF]; omega⟩ rfl hl.1 (Nat.le_of_ble_eq_true rfl) d_MO_closeRun_115 ⟨Nat.le_refl _, Nat.le_refl _⟩) (fun S_115 H locs hw hP hS => ?_)
        rw [hw] at hP
        refine lv_aload_n hx hb d_MO_closeRun_118 rfl (lv_at hl 3 rfl) ?_
        refine r_get hx hb hC hP i_MO (44) (by decide) rfl rfl 11 (by decide) l_MO_92 rfl d_MO_closeRun_119 ?_
        rw [show (moRaise (su (su (su (su S 44 13 (nI q)) 53 0 ((S 53 0) - (S 52 (3 * q)))) 53 1 ((S 53 1) - (S 52 (3 * q + 1)))) 53 2 ((S 53 2) - (S 52 (3 * q + 2)))) n 4 0) 44 11 = 4 from (moRaise_11 _ _ _ _)]
        refine lv_iconst (v := 4) hx hb d_MO_closeRun_122 (by decide) ?_
        refine lv_icmp_ne (tgt := 132) hx hb d_MO_closeRun_123 (by decide) (fun h => absurd h (by decide)) (fun _ => ?_)
        refine lv_aload_n hx hb d_MO_closeRun_126 rfl (lv_at hl 3 rfl) ?_
        refine lv_iload_n hx hb d_MO_closeRun_127 rfl (lv_at hl 5 rfl) ?_
        refine r_put hx hb hC hP hS i_MO t_MO t_MO_ok n_MO (44) (by decide) rfl rfl 10 (by decide) l_MO_121 rfl rfl rfl (Nat.le_of_ble_eq_true rfl) d_MO_closeRun_128 (fun H locs hP hS => ?_)
        exact e_v hx hb hr hlk hC hP hS d_MO_closeRun_131 rfl

set_option maxHeartbeats 4000000 in
set_option maxRecDepth 100000 in
theorem m_MO_closeRunO4 (l : Launch) (G : WG) (S : SS) (q : Nat) (hq6 : q < 6) (hq : S 44 13 = nI (q + 1)) (bk mi : Int32) (he : S 44 11 = 4) (how : moOwes S q = true) (n : Nat) (hn6 : n < 600) (hn : S 44 18 = nI n) : Cv l y_MO_closeRun b_MO_closeRun 6 2 G [.ref (gA G 44), .int bk, .int mi] S (fun S1 => S1 = su (moRaise (crH S q) n 4 (S 44 12)) 44 10 mi) := by
  refine mk l (by decide +kernel) (Nat.le_of_ble_eq_true rfl) ?_
  intro pp_ ee_ ss_ mm_ be_ me_ co_ ls hx hb hr hlk hml hC hP hS hl
  have hl : lv_has ls 6 [(0, .ref (gA G 44)), (1, .int bk), (2, .int mi)] := hl
  refine lv_aload_n hx hb d_MO_closeRun_0 rfl (lv_at hl 0 rfl) ?_
  refine r_get hx hb hC hP i_MO (44) (by decide) rfl rfl 11 (by decide) l_MO_92 rfl d_MO_closeRun_1 ?_
  rw [show S 44 11 = 4 from he]
  refine lv_iconst (v := 3) hx hb d_MO_closeRun_4 (by decide) ?_
  refine lv_icmp_ne (tgt := 15) hx hb d_MO_closeRun_5 (by decide) (fun _ => ?_) (fun h => absurd h (by decide))
  refine lv_aload_n hx hb d_MO_closeRun_15 rfl (lv_at hl 0 rfl) ?_
  refine r_get hx hb hC hP i_MO (44) (by decide) rfl rfl 10 (by decide) l_MO_121 rfl d_MO_closeRun_16 ?_
  refine lv_istore_n (lv' := [(3, .int (S 44 10)), (0, .ref (gA G 44)), (1, .int bk), (2, .int mi)]) hx hb d_MO_closeRun_19 rfl hl (by decide) rfl (fun ls hl => ?_)
  refine lv_iconst (v := 0) hx hb d_MO_closeRun_20 (by decide) ?_
  refine lv_istore (lv' := [(4, .int 0), (3, .int (S 44 10)), (0, .ref (gA G 44)), (1, .int bk), (2, .int mi)]) hx hb d_MO_closeRun_21 hl (by decide) rfl (fun ls hl => ?_)
  refine lv_aload_n hx hb d_MO_closeRun_23 rfl (lv_at hl 2 rfl) ?_
  refine lv_dup hx hb d_MO_closeRun_24 rfl ?_
  refine r_get hx hb hC hP i_MO (44) (by decide) rfl rfl 13 (by decide) l_MO_111 rfl d_MO_closeRun_25 ?_
  rw [show S 44 13 = nI (q + 1) from hq]
  refine lv_iconst (v := 1) hx hb d_MO_closeRun_28 (by decide) ?_
  refine lv_isub hx hb d_MO_closeRun_29 ?_
  rw [show (nI (q + 1)) - 1 = nI q from nI_pred q]
  refine r_put hx hb hC hP hS i_MO t_MO t_MO_ok n_MO (44) (by decide) rfl rfl 13 (by decide) l_MO_111 rfl rfl rfl (Nat.le_of_ble_eq_true rfl) d_MO_closeRun_30 (fun H locs hP hS => ?_)
  refine lv_iconst (v := 0) hx hb d_MO_closeRun_33 (by decide) ?_
  refine lv_istore (lv' := [(5, .int 0), (4, .int 0), (3, .int (S 44 10)), (0, .ref (gA G 44)), (1, .int bk), (2, .int mi)]) hx hb d_MO_closeRun_34 hl (by decide) rfl (fun ls hl => ?_)
  refine lv_iload hx hb d_MO_closeRun_36 (lv_at hl 0 rfl) ?_
  refine lv_iconst (v := 3) hx hb d_MO_closeRun_38 (by decide) ?_
  refine lv_icmp_ge (tgt := 92) hx hb d_MO_closeRun_39 (by decide) (fun h => absurd h (by decide)) (fun _ => ?_)
  refine lv_aload_n hx hb d_MO_closeRun_42 rfl (lv_at hl 3 rfl) ?_
  refine r_get hx hb hC hP i_MO (44) (by decide) rfl rfl 15 (by decide) l_MO_38 rfl d_MO_closeRun_43 ?_
  refine lv_iload hx hb d_MO_closeRun_46 (lv_at hl 0 rfl) ?_
  refine lv_dup2_11 hx hb d_MO_closeRun_48 rfl rfl ?_
  refine r_ild hx hb hC hP (53) (by decide) rfl 0 rfl (by decide) (by decide) d_MO_closeRun_49 ?_
  rw [show (su S 44 13 (nI q)) 53 0 = S 53 0 from by rw [su_cell _ _ _ (by decide)]]
  refine lv_aload_n hx hb d_MO_closeRun_50 rfl (lv_at hl 3 rfl) ?_
  refine r_get hx hb hC hP i_MO (44) (by decide) rfl rfl 14 (by decide) l_MO_35 rfl d_MO_closeRun_51 ?_
  refine lv_iconst (v := 3) hx hb d_MO_closeRun_54 (by decide) ?_
  refine lv_aload_n hx hb d_MO_closeRun_55 rfl (lv_at hl 3 rfl) ?_
  refine r_get hx hb hC hP i_MO (44) (by decide) rfl rfl 13 (by decide) l_MO_111 rfl d_MO_closeRun_56 ?_
  rw [show (su S 44 13 (nI q)) 44 13 = nI q from by rw [su_same]]
  refine lv_imul hx hb d_MO_closeRun_59 ?_
  refine lv_iload hx hb d_MO_closeRun_60 (lv_at hl 0 rfl) ?_
  refine lv_iadd hx hb d_MO_closeRun_62 ?_
  rw [show (3 * (nI q)) + 0 = nI (3 * q) from (nI_m3 q 0)]
  refine r_ild hx hb hC hP (52) (by decide) rfl (3 * q) rfl (by omega) (by decide) d_MO_closeRun_63 ?_
  rw [show (su S 44 13 (nI q)) 52 (3 * q) = S 52 (3 * q) from by rw [su_cell _ _ _ (by decide)]]
  refine lv_isub hx hb d_MO_closeRun_64 ?_
  refine r_ist hx hb hC hP hS (53) (by decide) (fun _ => rfl) 0 rfl (by decide) (by decide) d_MO_closeRun_65 (fun H locs hP hS => ?_)
  refine lv_aload_n hx hb d_MO_closeRun_66 rfl (lv_at hl 3 rfl) ?_
  refine r_get hx hb hC hP i_MO (44) (by decide) rfl rfl 14 (by decide) l_MO_35 rfl d_MO_closeRun_67 ?_
  refine lv_iconst (v := 3) hx hb d_MO_closeRun_70 (by decide) ?_
  refine lv_aload_n hx hb d_MO_closeRun_71 rfl (lv_at hl 3 rfl) ?_
  refine r_get hx hb hC hP i_MO (44) (by decide) rfl rfl 13 (by decide) l_MO_111 rfl d_MO_closeRun_72 ?_
  rw [show (su (su S 44 13 (nI q)) 53 0 ((S 53 0) - (S 52 (3 * q)))) 44 13 = nI q from by rw [su_cell _ _ _ (by decide), su_same]]
  refine lv_imul hx hb d_MO_closeRun_75 ?_
  refine lv_iload hx hb d_MO_closeRun_76 (lv_at hl 0 rfl) ?_
  refine lv_iadd hx hb d_MO_closeRun_78 ?_
  rw [show (3 * (nI q)) + 0 = nI (3 * q) from (nI_m3 q 0)]
  refine r_ild hx hb hC hP (52) (by decide) rfl (3 * q) rfl (by omega) (by decide) d_MO_closeRun_79 ?_
  rw [show (su (su S 44 13 (nI q)) 53 0 ((S 53 0) - (S 52 (3 * q)))) 52 (3 * q) = S 52 (3 * q) from by rw [su_cell _ _ _ (by decide), su_cell _ _ _ (by decide)]]
  refine lv_if_le (tgt := 86) hx hb d_MO_closeRun_80 (by decide) (fun c_80 => ?_) (fun c_80 => ?_)
  · refine lv_iinc (v := 1) (lv' := [(5, .int 1), (4, .int 0), (3, .int (S 44 10)), (0, .ref (gA G 44)), (1, .int bk), (2, .int mi)]) hx hb d_MO_closeRun_86 hl (k := 0) rfl (by decide) (by decide) rfl (fun ls hl => ?_)
    refine lv_goto (tgt := 36) hx hb d_MO_closeRun_89 (by decide) ?_
    refine lv_iload hx hb d_MO_closeRun_36 (lv_at hl 0 rfl) ?_
    refine lv_iconst (v := 3) hx hb d_MO_closeRun_38 (by decide) ?_
    refine lv_icmp_ge (tgt := 92) hx hb d_MO_closeRun_39 (by decide) (fun h => absurd h (by decide)) (fun _ => ?_)
    refine lv_aload_n hx hb d_MO_closeRun_42 rfl (lv_at hl 3 rfl) ?_
    refine r_get hx hb hC hP i_MO (44) (by decide) rfl rfl 15 (by decide) l_MO_38 rfl d_MO_closeRun_43 ?_
    refine lv_iload hx hb d_MO_closeRun_46 (lv_at hl 0 rfl) ?_
    refine lv_dup2_11 hx hb d_MO_closeRun_48 rfl rfl ?_
    refine r_ild hx hb hC hP (53) (by decide) rfl 1 rfl (by decide) (by decide) d_MO_closeRun_49 ?_
    rw [show (su (su S 44 13 (nI q)) 53 0 ((S 53 0) - (S 52 (3 * q)))) 53 1 = S 53 1 from by rw [su_int _ _ _ (by decide), su_cell _ _ _ (by decide)]]
    refine lv_aload_n hx hb d_MO_closeRun_50 rfl (lv_at hl 3 rfl) ?_
    refine r_get hx hb hC hP i_MO (44) (by decide) rfl rfl 14 (by decide) l_MO_35 rfl d_MO_closeRun_51 ?_
    refine lv_iconst (v := 3) hx hb d_MO_closeRun_54 (by decide) ?_
    refine lv_aload_n hx hb d_MO_closeRun_55 rfl (lv_at hl 3 rfl) ?_
    refine r_get hx hb hC hP i_MO (44) (by decide) rfl rfl 13 (by decide) l_MO_111 rfl d_MO_closeRun_56 ?_
    rw [show (su (su S 44 13 (nI q)) 53 0 ((S 53 0) - (S 52 (3 * q)))) 44 13 = nI q from by rw [su_cell _ _ _ (by decide), su_same]]
    refine lv_imul hx hb d_MO_closeRun_59 ?_
    refine lv_iload hx hb d_MO_closeRun_60 (lv_at hl 0 rfl) ?_
    refine lv_iadd hx hb d_MO_closeRun_62 ?_
    rw [show (3 * (nI q)) + 1 = nI (3 * q + 1) from (nI_m3 q 1)]
    refine r_ild hx hb hC hP (52) (by decide) rfl (3 * q + 1) rfl (by omega) (by decide) d_MO_closeRun_63 ?_
    rw [show (su (su S 44 13 (nI q)) 53 0 ((S 53 0) - (S 52 (3 * q)))) 52 (3 * q + 1) = S 52 (3 * q + 1) from by rw [su_cell _ _ _ (by decide), su_cell _ _ _ (by decide)]]
    refine lv_isub hx hb d_MO_closeRun_64 ?_
    refine r_ist hx hb hC hP hS (53) (by decide) (fun _ => rfl) 1 rfl (by decide) (by decide) d_MO_closeRun_65 (fun H locs hP hS => ?_)
    refine lv_aload_n hx hb d_MO_closeRun_66 rfl (lv_at hl 3 rfl) ?_
    refine r_get hx hb hC hP i_MO (44) (by decide) rfl rfl 14 (by decide) l_MO_35 rfl d_MO_closeRun_67 ?_
    refine lv_iconst (v := 3) hx hb d_MO_closeRun_70 (by decide) ?_
    refine lv_aload_n hx hb d_MO_closeRun_71 rfl (lv_at hl 3 rfl) ?_
    refine r_get hx hb hC hP i_MO (44) (by decide) rfl rfl 13 (by decide) l_MO_111 rfl d_MO_closeRun_72 ?_
    rw [show (su (su (su S 44 13 (nI q)) 53 0 ((S 53 0) - (S 52 (3 * q)))) 53 1 ((S 53 1) - (S 52 (3 * q + 1)))) 44 13 = nI q from by rw [su_cell _ _ _ (by decide), su_cell _ _ _ (by decide), su_same]]
    refine lv_imul hx hb d_MO_closeRun_75 ?_
    refine lv_iload hx hb d_MO_closeRun_76 (lv_at hl 0 rfl) ?_
    refine lv_iadd hx hb d_MO_closeRun_78 ?_
    rw [show (3 * (nI q)) + 1 = nI (3 * q + 1) from (nI_m3 q 1)]
    refine r_ild hx hb hC hP (52) (by decide) rfl (3 * q + 1) rfl (by omega) (by decide) d_MO_closeRun_79 ?_
    rw [show (su (su (su S 44 13 (nI q)) 53 0 ((S 53 0) - (S 52 (3 * q)))) 53 1 ((S 53 1) - (S 52 (3 * q + 1)))) 52 (3 * q + 1) = S 52 (3 * q + 1) from by rw [su_cell _ _ _ (by decide), su_cell _ _ _ (by decide), su_cell _ _ _ (by decide)]]
    refine lv_if_le (tgt := 86) hx hb d_MO_closeRun_80 (by decide) (fun c_80x => ?_) (fun c_80x => ?_)
    · refine lv_iinc (v := 2) (lv' := [(5, .int 2), (4, .int 0), (3, .int (S 44 10)), (0, .ref (gA G 44)), (1, .int bk), (2, .int mi)]) hx hb d_MO_closeRun_86 hl (k := 0) rfl (by decide) (by decide) rfl (fun ls hl => ?_)
      refine lv_goto (tgt := 36) hx hb d_MO_closeRun_89 (by decide) ?_
      refine lv_iload hx hb d_MO_closeRun_36 (lv_at hl 0 rfl) ?_
      refine lv_iconst (v := 3) hx hb d_MO_closeRun_38 (by decide) ?_
      refine lv_icmp_ge (tgt := 92) hx hb d_MO_closeRun_39 (by decide) (fun h => absurd h (by decide)) (fun _ => ?_)
      refine lv_aload_n hx hb d_MO_closeRun_42 rfl (lv_at hl 3 rfl) ?_
      refine r_get hx hb hC hP i_MO (44) (by decide) rfl rfl 15 (by decide) l_MO_38 rfl d_MO_closeRun_43 ?_
      refine lv_iload hx hb d_MO_closeRun_46 (lv_at hl 0 rfl) ?_
      refine lv_dup2_11 hx hb d_MO_closeRun_48 rfl rfl ?_
      refine r_ild hx hb hC hP (53) (by decide) rfl 2 rfl (by decide) (by decide) d_MO_closeRun_49 ?_
      rw [show (su (su (su S 44 13 (nI q)) 53 0 ((S 53 0) - (S 52 (3 * q)))) 53 1 ((S 53 1) - (S 52 (3 * q + 1)))) 53 2 = S 53 2 from by rw [su_int _ _ _ (by decide), su_int _ _ _ (by decide), su_cell _ _ _ (by decide)]]
      refine lv_aload_n hx hb d_MO_closeRun_50 rfl (lv_at hl 3 rfl) ?_
      refine r_get hx hb hC hP i_MO (44) (by decide) rfl rfl 14 (by decide) l_MO_35 rfl d_MO_closeRun_51 ?_
      refine lv_iconst (v := 3) hx hb d_MO_closeRun_54 (by decide) ?_
      refine lv_aload_n hx hb d_MO_closeRun_55 rfl (lv_at hl 3 rfl) ?_
      refine r_get hx hb hC hP i_MO (44) (by decide) rfl rfl 13 (by decide) l_MO_111 rfl d_MO_closeRun_56 ?_
      rw [show (su (su (su S 44 13 (nI q)) 53 0 ((S 53 0) - (S 52 (3 * q)))) 53 1 ((S 53 1) - (S 52 (3 * q + 1)))) 44 13 = nI q from by rw [su_cell _ _ _ (by decide), su_cell _ _ _ (by decide), su_same]]
      refine lv_imul hx hb d_MO_closeRun_59 ?_
      refine lv_iload hx hb d_MO_closeRun_60 (lv_at hl 0 rfl) ?_
      refine lv_iadd hx hb d_MO_closeRun_62 ?_
      rw [show (3 * (nI q)) + 2 = nI (3 * q + 2) from (nI_m3 q 2)]
      refine r_ild hx hb hC hP (52) (by decide) rfl (3 * q + 2) rfl (by omega) (by decide) d_MO_closeRun_63 ?_
      rw [show (su (su (su S 44 13 (nI q)) 53 0 ((S 53 0) - (S 52 (3 * q)))) 53 1 ((S 53 1) - (S 52 (3 * q + 1)))) 52 (3 * q + 2) = S 52 (3 * q + 2) from by rw [su_cell _ _ _ (by decide), su_cell _ _ _ (by decide), su_cell _ _ _ (by decide)]]
      refine lv_isub hx hb d_MO_closeRun_64 ?_
      refine r_ist hx hb hC hP hS (53) (by decide) (fun _ => rfl) 2 rfl (by decide) (by decide) d_MO_closeRun_65 (fun H locs hP hS => ?_)
      refine lv_aload_n hx hb d_MO_closeRun_66 rfl (lv_at hl 3 rfl) ?_
      refine r_get hx hb hC hP i_MO (44) (by decide) rfl rfl 14 (by decide) l_MO_35 rfl d_MO_closeRun_67 ?_
      refine lv_iconst (v := 3) hx hb d_MO_closeRun_70 (by decide) ?_
      refine lv_aload_n hx hb d_MO_closeRun_71 rfl (lv_at hl 3 rfl) ?_
      refine r_get hx hb hC hP i_MO (44) (by decide) rfl rfl 13 (by decide) l_MO_111 rfl d_MO_closeRun_72 ?_
      rw [show (su (su (su (su S 44 13 (nI q)) 53 0 ((S 53 0) - (S 52 (3 * q)))) 53 1 ((S 53 1) - (S 52 (3 * q + 1)))) 53 2 ((S 53 2) - (S 52 (3 * q + 2)))) 44 13 = nI q from by rw [su_cell _ _ _ (by decide), su_cell _ _ _ (by decide), su_cell _ _ _ (by decide), su_same]]
      refine lv_imul hx hb d_MO_closeRun_75 ?_
      refine lv_iload hx hb d_MO_closeRun_76 (lv_at hl 0 rfl) ?_
      refine lv_iadd hx hb d_MO_closeRun_78 ?_
      rw [show (3 * (nI q)) + 2 = nI (3 * q + 2) from (nI_m3 q 2)]
      refine r_ild hx hb hC hP (52) (by decide) rfl (3 * q + 2) rfl (by omega) (by decide) d_MO_closeRun_79 ?_
      rw [show (su (su (su (su S 44 13 (nI q)) 53 0 ((S 53 0) - (S 52 (3 * q)))) 53 1 ((S 53 1) - (S 52 (3 * q + 1)))) 53 2 ((S 53 2) - (S 52 (3 * q + 2)))) 52 (3 * q + 2) = S 52 (3 * q + 2) from by rw [su_cell _ _ _ (by decide), su_cell _ _ _ (by decide), su_cell _ _ _ (by decide), su_cell _ _ _ (by decide)]]
      refine lv_if_le (tgt := 86) hx hb d_MO_closeRun_80 (by decide) (fun c_80xx => ?_) (fun c_80xx => ?_)
      · refine lv_iinc (v := 3) (lv' := [(5, .int 3), (4, .int 0), (3, .int (S 44 10)), (0, .ref (gA G 44)), (1, .int bk), (2, .int mi)]) hx hb d_MO_closeRun_86 hl (k := 0) rfl (by decide) (by decide) rfl (fun ls hl => ?_)
        refine lv_goto (tgt := 36) hx hb d_MO_closeRun_89 (by decide) ?_
        refine lv_iload hx hb d_MO_closeRun_36 (lv_at hl 0 rfl) ?_
        refine lv_iconst (v := 3) hx hb d_MO_closeRun_38 (by decide) ?_
        refine lv_icmp_ge (tgt := 92) hx hb d_MO_closeRun_39 (by decide) (fun _ => ?_) (fun h => absurd h (by decide))
        refine lv_iload hx hb d_MO_closeRun_92 (lv_at hl 1 rfl) ?_
        refine lv_if_eq (tgt := 118) hx hb d_MO_closeRun_94 (by decide) (fun _ => ?_) (fun h => absurd h (by decide))
        refine lv_aload_n hx hb d_MO_closeRun_118 rfl (lv_at hl 3 rfl) ?_
        refine r_get hx hb hC hP i_MO (44) (by decide) rfl rfl 11 (by decide) l_MO_92 rfl d_MO_closeRun_119 ?_
        rw [show (su (su (su (su S 44 13 (nI q)) 53 0 ((S 53 0) - (S 52 (3 * q)))) 53 1 ((S 53 1) - (S 52 (3 * q + 1)))) 53 2 ((S 53 2) - (S 52 (3 * q + 2)))) 44 11 = S 44 11 from by rw [su_cell _ _ _ (by decide), su_cell _ _ _ (by decide), su_cell _ _ _ (by decide), su_int _ _ _ (by decide)]]
        rw [show S 44 11 = 4 from he]
        refine lv_iconst (v := 4) hx hb d_MO_closeRun_122 (by decide) ?_
        refine lv_icmp_ne (tgt := 132) hx hb d_MO_closeRun_123 (by decide) (fun h => absurd h (by decide)) (fun _ => ?_)
        refine lv_aload_n hx hb d_MO_closeRun_126 rfl (lv_at hl 3 rfl) ?_
        refine lv_iload_n hx hb d_MO_closeRun_127 rfl (lv_at hl 5 rfl) ?_
        refine r_put hx hb hC hP hS i_MO t_MO t_MO_ok n_MO (44) (by decide) rfl rfl 10 (by decide) l_MO_121 rfl rfl rfl (Nat.le_of_ble_eq_true rfl) d_MO_closeRun_128 (fun H locs hP hS => ?_)
        exact e_v hx hb hr hlk hC hP hS d_MO_closeRun_131 (by rw [moOwes, decide_eq_false (Int32.not_lt.mpr c_80), decide_eq_false (Int32.not_lt.mpr c_80x), decide_eq_false (Int32.not_lt.mpr c_80xx)] at how; exact absurd how (by decide))
      · refine lv_iconst (v := 1) hx hb d_MO_closeRun_83 (by decide) ?_
        refine lv_istore (lv' := [(4, .int 1), (5, .int 2), (3, .int (S 44 10)), (0, .ref (gA G 44)), (1, .int bk), (2, .int mi)]) hx hb d_MO_closeRun_84 hl (by decide) rfl (fun ls hl => ?_)
        refine lv_iinc (v := 3) (lv' := [(5, .int 3), (4, .int 1), (3, .int (S 44 10)), (0, .ref (gA G 44)), (1, .int bk), (2, .int mi)]) hx hb d_MO_closeRun_86 hl (k := 1) rfl (by decide) (by decide) rfl (fun ls hl => ?_)
        refine lv_goto (tgt := 36) hx hb d_MO_closeRun_89 (by decide) ?_
        refine lv_iload hx hb d_MO_closeRun_36 (lv_at hl 0 rfl) ?_
        refine lv_iconst (v := 3) hx hb d_MO_closeRun_38 (by decide) ?_
        refine lv_icmp_ge (tgt := 92) hx hb d_MO_closeRun_39 (by decide) (fun _ => ?_) (fun h => absurd h (by decide))
        refine lv_iload hx hb d_MO_closeRun_92 (lv_at hl 1 rfl) ?_
        refine lv_if_eq (tgt := 118) hx hb d_MO_closeRun_94 (by decide) (fun h => absurd h (by decide)) (fun _ => ?_)
        refine lv_aload_n hx hb d_MO_closeRun_97 rfl (lv_at hl 3 rfl) ?_
        refine lv_iconst (v := 4) hx hb d_MO_closeRun_98 (by decide) ?_
        refine lv_aload_n hx hb d_MO_closeRun_99 rfl (lv_at hl 3 rfl) ?_
        refine r_get hx hb hC hP i_MO (44) (by decide) rfl rfl 11 (by decide) l_MO_92 rfl d_MO_closeRun_100 ?_
        rw [show (su (su (su (su S 44 13 (nI q)) 53 0 ((S 53 0) - (S 52 (3 * q)))) 53 1 ((S 53 1) - (S 52 (3 * q + 1)))) 53 2 ((S 53 2) - (S 52 (3 * q + 2)))) 44 11 = S 44 11 from by rw [su_cell _ _ _ (by decide), su_cell _ _ _ (by decide), su_cell _ _ _ (by decide), su_int _ _ _ (by decide)]]
        rw [show S 44 11 = 4 from he]
        refine lv_iconst (v := 4) hx hb d_MO_closeRun_103 (by decide) ?_
        refine lv_icmp_ne (tgt := 114) hx hb d_MO_closeRun_104 (by decide) (fun h => absurd h (by decide)) (fun _ => ?_)
        refine lv_aload_n hx hb d_MO_closeRun_107 rfl (lv_at hl 3 rfl) ?_
        refine r_get hx hb hC hP i_MO (44) (by decide) rfl rfl 12 (by decide) l_MO_95 rfl d_MO_closeRun_108 ?_
        rw [show (su (su (su (su S 44 13 (nI q)) 53 0 ((S 53 0) - (S 52 (3 * q)))) 53 1 ((S 53 1) - (S 52 (3 * q + 1)))) 53 2 ((S 53 2) - (S 52 (3 * q + 2)))) 44 12 = S 44 12 from by rw [su_cell _ _ _ (by decide), su_cell _ _ _ (by decide), su_cell _ _ _ (by decide), su_int _ _ _ (by decide)]]
        refine lv_goto (tgt := 115) hx hb d_MO_closeRun_111 (by decide) ?_
        refine r_v hC hS (r_runV (np := 2) (As := [.int 4, .int (S 44 12)]) (rest := []) hx hb hml hC hP hS (by decide) rfl rfl (m_MO_raise l G (su (su (su (su S 44 13 (nI q)) 53 0 ((S 53 0) - (S 52 (3 * q)))) 53 1 ((S 53 1) - (S 52 (3 * q + 1)))) 53 2 ((S 53 2) - (S 52 (3 * q + 2)))) n (by omega) (by rw [su_cell _ _ _ (by decide), su_cell _ _ _ (by decide), su_cell _ _ _ (by decide), su_int _ _ _ (by decide)]; exact hn) 4 (S 44 12)) l_MO_124 im_MO_raise se_MO_raise in_MO c_MO_raise_in (by decide +kernel) ⟨by simp only [rmF]; omega, by simp only [rmF]; omega⟩ rfl hl.1 (Nat.le_of_ble_eq_true rfl) d_MO_closeRun_115 ⟨Nat.le_refl _, Nat.le_refl _⟩) (fun S_115 H locs hw hP hS => ?_)
        rw [hw] at hP
        refine lv_aload_n hx hb d_MO_closeRun_118 rfl (lv_at hl 3 rfl) ?_
        refine r_get hx hb hC hP i_MO (44) (by decide) rfl rfl 11 (by decide) l_MO_92 rfl d_MO_closeRun_119 ?_
        rw [show (moRaise (su (su (su (su S 44 13 (nI q)) 53 0 ((S 53 0) - (S 52 (3 * q)))) 53 1 ((S 53 1) - (S 52 (3 * q + 1)))) 53 2 ((S 53 2) - (S 52 (3 * q + 2)))) n 4 (S 44 12)) 44 11 = 4 from (moRaise_11 _ _ _ _)]
        refine lv_iconst (v := 4) hx hb d_MO_closeRun_122 (by decide) ?_
        refine lv_icmp_ne (tgt := 132) hx hb d_MO_closeRun_123 (by decide) (fun h => absurd h (by decide)) (fun _ => ?_)
        refine lv_aload_n hx hb d_MO_closeRun_126 rfl (lv_at hl 3 rfl) ?_
        refine lv_iload_n hx hb d_MO_closeRun_127 rfl (lv_at hl 5 rfl) ?_
        refine r_put hx hb hC hP hS i_MO t_MO t_MO_ok n_MO (44) (by decide) rfl rfl 10 (by decide) l_MO_121 rfl rfl rfl (Nat.le_of_ble_eq_true rfl) d_MO_closeRun_128 (fun H locs hP hS => ?_)
        exact e_v hx hb hr hlk hC hP hS d_MO_closeRun_131 rfl
    · refine lv_iconst (v := 1) hx hb d_MO_closeRun_83 (by decide) ?_
      refine lv_istore (lv' := [(4, .int 1), (5, .int 1), (3, .int (S 44 10)), (0, .ref (gA G 44)), (1, .int bk), (2, .int mi)]) hx hb d_MO_closeRun_84 hl (by decide) rfl (fun ls hl => ?_)
      refine lv_iinc (v := 2) (lv' := [(5, .int 2), (4, .int 1), (3, .int (S 44 10)), (0, .ref (gA G 44)), (1, .int bk), (2, .int mi)]) hx hb d_MO_closeRun_86 hl (k := 1) rfl (by decide) (by decide) rfl (fun ls hl => ?_)
      refine lv_goto (tgt := 36) hx hb d_MO_closeRun_89 (by decide) ?_
      refine lv_iload hx hb d_MO_closeRun_36 (lv_at hl 0 rfl) ?_
      refine lv_iconst (v := 3) hx hb d_MO_closeRun_38 (by decide) ?_
      refine lv_icmp_ge (tgt := 92) hx hb d_MO_closeRun_39 (by decide) (fun h => absurd h (by decide)) (fun _ => ?_)
      refine lv_aload_n hx hb d_MO_closeRun_42 rfl (lv_at hl 3 rfl) ?_
      refine r_get hx hb hC hP i_MO (44) (by decide) rfl rfl 15 (by decide) l_MO_38 rfl d_MO_closeRun_43 ?_
      refine lv_iload hx hb d_MO_closeRun_46 (lv_at hl 0 rfl) ?_
      refine lv_dup2_11 hx hb d_MO_closeRun_48 rfl rfl ?_
      refine r_ild hx hb hC hP (53) (by decide) rfl 2 rfl (by decide) (by decide) d_MO_closeRun_49 ?_
      rw [show (su (su (su S 44 13 (nI q)) 53 0 ((S 53 0) - (S 52 (3 * q)))) 53 1 ((S 53 1) - (S 52 (3 * q + 1)))) 53 2 = S 53 2 from by rw [su_int _ _ _ (by decide), su_int _ _ _ (by decide), su_cell _ _ _ (by decide)]]
      refine lv_aload_n hx hb d_MO_closeRun_50 rfl (lv_at hl 3 rfl) ?_
      refine r_get hx hb hC hP i_MO (44) (by decide) rfl rfl 14 (by decide) l_MO_35 rfl d_MO_closeRun_51 ?_
      refine lv_iconst (v := 3) hx hb d_MO_closeRun_54 (by decide) ?_
      refine lv_aload_n hx hb d_MO_closeRun_55 rfl (lv_at hl 3 rfl) ?_
      refine r_get hx hb hC hP i_MO (44) (by decide) rfl rfl 13 (by decide) l_MO_111 rfl d_MO_closeRun_56 ?_
      rw [show (su (su (su S 44 13 (nI q)) 53 0 ((S 53 0) - (S 52 (3 * q)))) 53 1 ((S 53 1) - (S 52 (3 * q + 1)))) 44 13 = nI q from by rw [su_cell _ _ _ (by decide), su_cell _ _ _ (by decide), su_same]]
      refine lv_imul hx hb d_MO_closeRun_59 ?_
      refine lv_iload hx hb d_MO_closeRun_60 (lv_at hl 0 rfl) ?_
      refine lv_iadd hx hb d_MO_closeRun_62 ?_
      rw [show (3 * (nI q)) + 2 = nI (3 * q + 2) from (nI_m3 q 2)]
      refine r_ild hx hb hC hP (52) (by decide) rfl (3 * q + 2) rfl (by omega) (by decide) d_MO_closeRun_63 ?_
      rw [show (su (su (su S 44 13 (nI q)) 53 0 ((S 53 0) - (S 52 (3 * q)))) 53 1 ((S 53 1) - (S 52 (3 * q + 1)))) 52 (3 * q + 2) = S 52 (3 * q + 2) from by rw [su_cell _ _ _ (by decide), su_cell _ _ _ (by decide), su_cell _ _ _ (by decide)]]
      refine lv_isub hx hb d_MO_closeRun_64 ?_
      refine r_ist hx hb hC hP hS (53) (by decide) (fun _ => rfl) 2 rfl (by decide) (by decide) d_MO_closeRun_65 (fun H locs hP hS => ?_)
      refine lv_aload_n hx hb d_MO_closeRun_66 rfl (lv_at hl 3 rfl) ?_
      refine r_get hx hb hC hP i_MO (44) (by decide) rfl rfl 14 (by decide) l_MO_35 rfl d_MO_closeRun_67 ?_
      refine lv_iconst (v := 3) hx hb d_MO_closeRun_70 (by decide) ?_
      refine lv_aload_n hx hb d_MO_closeRun_71 rfl (lv_at hl 3 rfl) ?_
      refine r_get hx hb hC hP i_MO (44) (by decide) rfl rfl 13 (by decide) l_MO_111 rfl d_MO_closeRun_72 ?_
      rw [show (su (su (su (su S 44 13 (nI q)) 53 0 ((S 53 0) - (S 52 (3 * q)))) 53 1 ((S 53 1) - (S 52 (3 * q + 1)))) 53 2 ((S 53 2) - (S 52 (3 * q + 2)))) 44 13 = nI q from by rw [su_cell _ _ _ (by decide), su_cell _ _ _ (by decide), su_cell _ _ _ (by decide), su_same]]
      refine lv_imul hx hb d_MO_closeRun_75 ?_
      refine lv_iload hx hb d_MO_closeRun_76 (lv_at hl 0 rfl) ?_
      refine lv_iadd hx hb d_MO_closeRun_78 ?_
      rw [show (3 * (nI q)) + 2 = nI (3 * q + 2) from (nI_m3 q 2)]
      refine r_ild hx hb hC hP (52) (by decide) rfl (3 * q + 2) rfl (by omega) (by decide) d_MO_closeRun_79 ?_
      rw [show (su (su (su (su S 44 13 (nI q)) 53 0 ((S 53 0) - (S 52 (3 * q)))) 53 1 ((S 53 1) - (S 52 (3 * q + 1)))) 53 2 ((S 53 2) - (S 52 (3 * q + 2)))) 52 (3 * q + 2) = S 52 (3 * q + 2) from by rw [su_cell _ _ _ (by decide), su_cell _ _ _ (by decide), su_cell _ _ _ (by decide), su_cell _ _ _ (by decide)]]
      refine lv_if_le (tgt := 86) hx hb d_MO_closeRun_80 (by decide) (fun c_80xx => ?_) (fun c_80xx => ?_)
      · refine lv_iinc (v := 3) (lv' := [(5, .int 3), (4, .int 1), (3, .int (S 44 10)), (0, .ref (gA G 44)), (1, .int bk), (2, .int mi)]) hx hb d_MO_closeRun_86 hl (k := 0) rfl (by decide) (by decide) rfl (fun ls hl => ?_)
        refine lv_goto (tgt := 36) hx hb d_MO_closeRun_89 (by decide) ?_
        refine lv_iload hx hb d_MO_closeRun_36 (lv_at hl 0 rfl) ?_
        refine lv_iconst (v := 3) hx hb d_MO_closeRun_38 (by decide) ?_
        refine lv_icmp_ge (tgt := 92) hx hb d_MO_closeRun_39 (by decide) (fun _ => ?_) (fun h => absurd h (by decide))
        refine lv_iload hx hb d_MO_closeRun_92 (lv_at hl 1 rfl) ?_
        refine lv_if_eq (tgt := 118) hx hb d_MO_closeRun_94 (by decide) (fun h => absurd h (by decide)) (fun _ => ?_)
        refine lv_aload_n hx hb d_MO_closeRun_97 rfl (lv_at hl 3 rfl) ?_
        refine lv_iconst (v := 4) hx hb d_MO_closeRun_98 (by decide) ?_
        refine lv_aload_n hx hb d_MO_closeRun_99 rfl (lv_at hl 3 rfl) ?_
        refine r_get hx hb hC hP i_MO (44) (by decide) rfl rfl 11 (by decide) l_MO_92 rfl d_MO_closeRun_100 ?_
        rw [show (su (su (su (su S 44 13 (nI q)) 53 0 ((S 53 0) - (S 52 (3 * q)))) 53 1 ((S 53 1) - (S 52 (3 * q + 1)))) 53 2 ((S 53 2) - (S 52 (3 * q + 2)))) 44 11 = S 44 11 from by rw [su_cell _ _ _ (by decide), su_cell _ _ _ (by decide), su_cell _ _ _ (by decide), su_int _ _ _ (by decide)]]
        rw [show S 44 11 = 4 from he]
        refine lv_iconst (v := 4) hx hb d_MO_closeRun_103 (by decide) ?_
        refine lv_icmp_ne (tgt := 114) hx hb d_MO_closeRun_104 (by decide) (fun h => absurd h (by decide)) (fun _ => ?_)
        refine lv_aload_n hx hb d_MO_closeRun_107 rfl (lv_at hl 3 rfl) ?_
        refine r_get hx hb hC hP i_MO (44) (by decide) rfl rfl 12 (by decide) l_MO_95 rfl d_MO_closeRun_108 ?_
        rw [show (su (su (su (su S 44 13 (nI q)) 53 0 ((S 53 0) - (S 52 (3 * q)))) 53 1 ((S 53 1) - (S 52 (3 * q + 1)))) 53 2 ((S 53 2) - (S 52 (3 * q + 2)))) 44 12 = S 44 12 from by rw [su_cell _ _ _ (by decide), su_cell _ _ _ (by decide), su_cell _ _ _ (by decide), su_int _ _ _ (by decide)]]
        refine lv_goto (tgt := 115) hx hb d_MO_closeRun_111 (by decide) ?_
        refine r_v hC hS (r_runV (np := 2) (As := [.int 4, .int (S 44 12)]) (rest := []) hx hb hml hC hP hS (by decide) rfl rfl (m_MO_raise l G (su (su (su (su S 44 13 (nI q)) 53 0 ((S 53 0) - (S 52 (3 * q)))) 53 1 ((S 53 1) - (S 52 (3 * q + 1)))) 53 2 ((S 53 2) - (S 52 (3 * q + 2)))) n (by omega) (by rw [su_cell _ _ _ (by decide), su_cell _ _ _ (by decide), su_cell _ _ _ (by decide), su_int _ _ _ (by decide)]; exact hn) 4 (S 44 12)) l_MO_124 im_MO_raise se_MO_raise in_MO c_MO_raise_in (by decide +kernel) ⟨by simp only [rmF]; omega, by simp only [rmF]; omega⟩ rfl hl.1 (Nat.le_of_ble_eq_true rfl) d_MO_closeRun_115 ⟨Nat.le_refl _, Nat.le_refl _⟩) (fun S_115 H locs hw hP hS => ?_)
        rw [hw] at hP
        refine lv_aload_n hx hb d_MO_closeRun_118 rfl (lv_at hl 3 rfl) ?_
        refine r_get hx hb hC hP i_MO (44) (by decide) rfl rfl 11 (by decide) l_MO_92 rfl d_MO_closeRun_119 ?_
        rw [show (moRaise (su (su (su (su S 44 13 (nI q)) 53 0 ((S 53 0) - (S 52 (3 * q)))) 53 1 ((S 53 1) - (S 52 (3 * q + 1)))) 53 2 ((S 53 2) - (S 52 (3 * q + 2)))) n 4 (S 44 12)) 44 11 = 4 from (moRaise_11 _ _ _ _)]
        refine lv_iconst (v := 4) hx hb d_MO_closeRun_122 (by decide) ?_
        refine lv_icmp_ne (tgt := 132) hx hb d_MO_closeRun_123 (by decide) (fun h => absurd h (by decide)) (fun _ => ?_)
        refine lv_aload_n hx hb d_MO_closeRun_126 rfl (lv_at hl 3 rfl) ?_
        refine lv_iload_n hx hb d_MO_closeRun_127 rfl (lv_at hl 5 rfl) ?_
        refine r_put hx hb hC hP hS i_MO t_MO t_MO_ok n_MO (44) (by decide) rfl rfl 10 (by decide) l_MO_121 rfl rfl rfl (Nat.le_of_ble_eq_true rfl) d_MO_closeRun_128 (fun H locs hP hS => ?_)
        exact e_v hx hb hr hlk hC hP hS d_MO_closeRun_131 rfl
      · refine lv_iconst (v := 1) hx hb d_MO_closeRun_83 (by decide) ?_
        refine lv_istore (lv' := [(4, .int 1), (5, .int 2), (3, .int (S 44 10)), (0, .ref (gA G 44)), (1, .int bk), (2, .int mi)]) hx hb d_MO_closeRun_84 hl (by decide) rfl (fun ls hl => ?_)
        refine lv_iinc (v := 3) (lv' := [(5, .int 3), (4, .int 1), (3, .int (S 44 10)), (0, .ref (gA G 44)), (1, .int bk), (2, .int mi)]) hx hb d_MO_closeRun_86 hl (k := 1) rfl (by decide) (by decide) rfl (fun ls hl => ?_)
        refine lv_goto (tgt := 36) hx hb d_MO_closeRun_89 (by decide) ?_
        refine lv_iload hx hb d_MO_closeRun_36 (lv_at hl 0 rfl) ?_
        refine lv_iconst (v := 3) hx hb d_MO_closeRun_38 (by decide) ?_
        refine lv_icmp_ge (tgt := 92) hx hb d_MO_closeRun_39 (by decide) (fun _ => ?_) (fun h => absurd h (by decide))
        refine lv_iload hx hb d_MO_closeRun_92 (lv_at hl 1 rfl) ?_
        refine lv_if_eq (tgt := 118) hx hb d_MO_closeRun_94 (by decide) (fun h => absurd h (by decide)) (fun _ => ?_)
        refine lv_aload_n hx hb d_MO_closeRun_97 rfl (lv_at hl 3 rfl) ?_
        refine lv_iconst (v := 4) hx hb d_MO_closeRun_98 (by decide) ?_
        refine lv_aload_n hx hb d_MO_closeRun_99 rfl (lv_at hl 3 rfl) ?_
        refine r_get hx hb hC hP i_MO (44) (by decide) rfl rfl 11 (by decide) l_MO_92 rfl d_MO_closeRun_100 ?_
        rw [show (su (su (su (su S 44 13 (nI q)) 53 0 ((S 53 0) - (S 52 (3 * q)))) 53 1 ((S 53 1) - (S 52 (3 * q + 1)))) 53 2 ((S 53 2) - (S 52 (3 * q + 2)))) 44 11 = S 44 11 from by rw [su_cell _ _ _ (by decide), su_cell _ _ _ (by decide), su_cell _ _ _ (by decide), su_int _ _ _ (by decide)]]
        rw [show S 44 11 = 4 from he]
        refine lv_iconst (v := 4) hx hb d_MO_closeRun_103 (by decide) ?_
        refine lv_icmp_ne (tgt := 114) hx hb d_MO_closeRun_104 (by decide) (fun h => absurd h (by decide)) (fun _ => ?_)
        refine lv_aload_n hx hb d_MO_closeRun_107 rfl (lv_at hl 3 rfl) ?_
        refine r_get hx hb hC hP i_MO (44) (by decide) rfl rfl 12 (by decide) l_MO_95 rfl d_MO_closeRun_108 ?_
        rw [show (su (su (su (su S 44 13 (nI q)) 53 0 ((S 53 0) - (S 52 (3 * q)))) 53 1 ((S 53 1) - (S 52 (3 * q + 1)))) 53 2 ((S 53 2) - (S 52 (3 * q + 2)))) 44 12 = S 44 12 from by rw [su_cell _ _ _ (by decide), su_cell _ _ _ (by decide), su_cell _ _ _ (by decide), su_int _ _ _ (by decide)]]
        refine lv_goto (tgt := 115) hx hb d_MO_closeRun_111 (by decide) ?_
        refine r_v hC hS (r_runV (np := 2) (As := [.int 4, .int (S 44 12)]) (rest := []) hx hb hml hC hP hS (by decide) rfl rfl (m_MO_raise l G (su (su (su (su S 44 13 (nI q)) 53 0 ((S 53 0) - (S 52 (3 * q)))) 53 1 ((S 53 1) - (S 52 (3 * q + 1)))) 53 2 ((S 53 2) - (S 52 (3 * q + 2)))) n (by omega) (by rw [su_cell _ _ _ (by decide), su_cell _ _ _ (by decide), su_cell _ _ _ (by decide), su_int _ _ _ (by decide)]; exact hn) 4 (S 44 12)) l_MO_124 im_MO_raise se_MO_raise in_MO c_MO_raise_in (by decide +kernel) ⟨by simp only [rmF]; omega, by simp only [rmF]; omega⟩ rfl hl.1 (Nat.le_of_ble_eq_true rfl) d_MO_closeRun_115 ⟨Nat.le_refl _, Nat.le_refl _⟩) (fun S_115 H locs hw hP hS => ?_)
        rw [hw] at hP
        refine lv_aload_n hx hb d_MO_closeRun_118 rfl (lv_at hl 3 rfl) ?_
        refine r_get hx hb hC hP i_MO (44) (by decide) rfl rfl 11 (by decide) l_MO_92 rfl d_MO_closeRun_119 ?_
        rw [show (moRaise (su (su (su (su S 44 13 (nI q)) 53 0 ((S 53 0) - (S 52 (3 * q)))) 53 1 ((S 53 1) - (S 52 (3 * q + 1)))) 53 2 ((S 53 2) - (S 52 (3 * q + 2)))) n 4 (S 44 12)) 44 11 = 4 from (moRaise_11 _ _ _ _)]
        refine lv_iconst (v := 4) hx hb d_MO_closeRun_122 (by decide) ?_
        refine lv_icmp_ne (tgt := 132) hx hb d_MO_closeRun_123 (by decide) (fun h => absurd h (by decide)) (fun _ => ?_)
        refine lv_aload_n hx hb d_MO_closeRun_126 rfl (lv_at hl 3 rfl) ?_
        refine lv_iload_n hx hb d_MO_closeRun_127 rfl (lv_at hl 5 rfl) ?_
        refine r_put hx hb hC hP hS i_MO t_MO t_MO_ok n_MO (44) (by decide) rfl rfl 10 (by decide) l_MO_121 rfl rfl rfl (Nat.le_of_ble_eq_true rfl) d_MO_closeRun_128 (fun H locs hP hS => ?_)
        exact e_v hx hb hr hlk hC hP hS d_MO_closeRun_131 rfl
  · refine lv_iconst (v := 1) hx hb d_MO_closeRun_83 (by decide) ?_
    refine lv_istore (lv' := [(4, .int 1), (5, .int 0), (3, .int (S 44 10)), (0, .ref (gA G 44)), (1, .int bk), (2, .int mi)]) hx hb d_MO_closeRun_84 hl (by decide) rfl (fun ls hl => ?_)
    refine lv_iinc (v := 1) (lv' := [(5, .int 1), (4, .int 1), (3, .int (S 44 10)), (0, .ref (gA G 44)), (1, .int bk), (2, .int mi)]) hx hb d_MO_closeRun_86 hl (k := 1) rfl (by decide) (by decide) rfl (fun ls hl => ?_)
    refine lv_goto (tgt := 36) hx hb d_MO_closeRun_89 (by decide) ?_
    refine lv_iload hx hb d_MO_closeRun_36 (lv_at hl 0 rfl) ?_
    refine lv_iconst (v := 3) hx hb d_MO_closeRun_38 (by decide) ?_
    refine lv_icmp_ge (tgt := 92) hx hb d_MO_closeRun_39 (by decide) (fun h => absurd h (by decide)) (fun _ => ?_)
    refine lv_aload_n hx hb d_MO_closeRun_42 rfl (lv_at hl 3 rfl) ?_
    refine r_get hx hb hC hP i_MO (44) (by decide) rfl rfl 15 (by decide) l_MO_38 rfl d_MO_closeRun_43 ?_
    refine lv_iload hx hb d_MO_closeRun_46 (lv_at hl 0 rfl) ?_
    refine lv_dup2_11 hx hb d_MO_closeRun_48 rfl rfl ?_
    refine r_ild hx hb hC hP (53) (by decide) rfl 1 rfl (by decide) (by decide) d_MO_closeRun_49 ?_
    rw [show (su (su S 44 13 (nI q)) 53 0 ((S 53 0) - (S 52 (3 * q)))) 53 1 = S 53 1 from by rw [su_int _ _ _ (by decide), su_cell _ _ _ (by decide)]]
    refine lv_aload_n hx hb d_MO_closeRun_50 rfl (lv_at hl 3 rfl) ?_
    refine r_get hx hb hC hP i_MO (44) (by decide) rfl rfl 14 (by decide) l_MO_35 rfl d_MO_closeRun_51 ?_
    refine lv_iconst (v := 3) hx hb d_MO_closeRun_54 (by decide) ?_
    refine lv_aload_n hx hb d_MO_closeRun_55 rfl (lv_at hl 3 rfl) ?_
    refine r_get hx hb hC hP i_MO (44) (by decide) rfl rfl 13 (by decide) l_MO_111 rfl d_MO_closeRun_56 ?_
    rw [show (su (su S 44 13 (nI q)) 53 0 ((S 53 0) - (S 52 (3 * q)))) 44 13 = nI q from by rw [su_cell _ _ _ (by decide), su_same]]
    refine lv_imul hx hb d_MO_closeRun_59 ?_
    refine lv_iload hx hb d_MO_closeRun_60 (lv_at hl 0 rfl) ?_
    refine lv_iadd hx hb d_MO_closeRun_62 ?_
    rw [show (3 * (nI q)) + 1 = nI (3 * q + 1) from (nI_m3 q 1)]
    refine r_ild hx hb hC hP (52) (by decide) rfl (3 * q + 1) rfl (by omega) (by decide) d_MO_closeRun_63 ?_
    rw [show (su (su S 44 13 (nI q)) 53 0 ((S 53 0) - (S 52 (3 * q)))) 52 (3 * q + 1) = S 52 (3 * q + 1) from by rw [su_cell _ _ _ (by decide), su_cell _ _ _ (by decide)]]
    refine lv_isub hx hb d_MO_closeRun_64 ?_
    refine r_ist hx hb hC hP hS (53) (by decide) (fun _ => rfl) 1 rfl (by decide) (by decide) d_MO_closeRun_65 (fun H locs hP hS => ?_)
    refine lv_aload_n hx hb d_MO_closeRun_66 rfl (lv_at hl 3 rfl) ?_
    refine r_get hx hb hC hP i_MO (44) (by decide) rfl rfl 14 (by decide) l_MO_35 rfl d_MO_closeRun_67 ?_
    refine lv_iconst (v := 3) hx hb d_MO_closeRun_70 (by decide) ?_
    refine lv_aload_n hx hb d_MO_closeRun_71 rfl (lv_at hl 3 rfl) ?_
    refine r_get hx hb hC hP i_MO (44) (by decide) rfl rfl 13 (by decide) l_MO_111 rfl d_MO_closeRun_72 ?_
    rw [show (su (su (su S 44 13 (nI q)) 53 0 ((S 53 0) - (S 52 (3 * q)))) 53 1 ((S 53 1) - (S 52 (3 * q + 1)))) 44 13 = nI q from by rw [su_cell _ _ _ (by decide), su_cell _ _ _ (by decide), su_same]]
    refine lv_imul hx hb d_MO_closeRun_75 ?_
    refine lv_iload hx hb d_MO_closeRun_76 (lv_at hl 0 rfl) ?_
    refine lv_iadd hx hb d_MO_closeRun_78 ?_
    rw [show (3 * (nI q)) + 1 = nI (3 * q + 1) from (nI_m3 q 1)]
    refine r_ild hx hb hC hP (52) (by decide) rfl (3 * q + 1) rfl (by omega) (by decide) d_MO_closeRun_79 ?_
    rw [show (su (su (su S 44 13 (nI q)) 53 0 ((S 53 0) - (S 52 (3 * q)))) 53 1 ((S 53 1) - (S 52 (3 * q + 1)))) 52 (3 * q + 1) = S 52 (3 * q + 1) from by rw [su_cell _ _ _ (by decide), su_cell _ _ _ (by decide), su_cell _ _ _ (by decide)]]
    refine lv_if_le (tgt := 86) hx hb d_MO_closeRun_80 (by decide) (fun c_80x => ?_) (fun c_80x => ?_)
    · refine lv_iinc (v := 2) (lv' := [(5, .int 2), (4, .int 1), (3, .int (S 44 10)), (0, .ref (gA G 44)), (1, .int bk), (2, .int mi)]) hx hb d_MO_closeRun_86 hl (k := 0) rfl (by decide) (by decide) rfl (fun ls hl => ?_)
      refine lv_goto (tgt := 36) hx hb d_MO_closeRun_89 (by decide) ?_
      refine lv_iload hx hb d_MO_closeRun_36 (lv_at hl 0 rfl) ?_
      refine lv_iconst (v := 3) hx hb d_MO_closeRun_38 (by decide) ?_
      refine lv_icmp_ge (tgt := 92) hx hb d_MO_closeRun_39 (by decide) (fun h => absurd h (by decide)) (fun _ => ?_)
      refine lv_aload_n hx hb d_MO_closeRun_42 rfl (lv_at hl 3 rfl) ?_
      refine r_get hx hb hC hP i_MO (44) (by decide) rfl rfl 15 (by decide) l_MO_38 rfl d_MO_closeRun_43 ?_
      refine lv_iload hx hb d_MO_closeRun_46 (lv_at hl 0 rfl) ?_
      refine lv_dup2_11 hx hb d_MO_closeRun_48 rfl rfl ?_
      refine r_ild hx hb hC hP (53) (by decide) rfl 2 rfl (by decide) (by decide) d_MO_closeRun_49 ?_
      rw [show (su (su (su S 44 13 (nI q)) 53 0 ((S 53 0) - (S 52 (3 * q)))) 53 1 ((S 53 1) - (S 52 (3 * q + 1)))) 53 2 = S 53 2 from by rw [su_int _ _ _ (by decide), su_int _ _ _ (by decide), su_cell _ _ _ (by decide)]]
      refine lv_aload_n hx hb d_MO_closeRun_50 rfl (lv_at hl 3 rfl) ?_
      refine r_get hx hb hC hP i_MO (44) (by decide) rfl rfl 14 (by decide) l_MO_35 rfl d_MO_closeRun_51 ?_
      refine lv_iconst (v := 3) hx hb d_MO_closeRun_54 (by decide) ?_
      refine lv_aload_n hx hb d_MO_closeRun_55 rfl (lv_at hl 3 rfl) ?_
      refine r_get hx hb hC hP i_MO (44) (by decide) rfl rfl 13 (by decide) l_MO_111 rfl d_MO_closeRun_56 ?_
      rw [show (su (su (su S 44 13 (nI q)) 53 0 ((S 53 0) - (S 52 (3 * q)))) 53 1 ((S 53 1) - (S 52 (3 * q + 1)))) 44 13 = nI q from by rw [su_cell _ _ _ (by decide), su_cell _ _ _ (by decide), su_same]]
      refine lv_imul hx hb d_MO_closeRun_59 ?_
      refine lv_iload hx hb d_MO_closeRun_60 (lv_at hl 0 rfl) ?_
      refine lv_iadd hx hb d_MO_closeRun_62 ?_
      rw [show (3 * (nI q)) + 2 = nI (3 * q + 2) from (nI_m3 q 2)]
      refine r_ild hx hb hC hP (52) (by decide) rfl (3 * q + 2) rfl (by omega) (by decide) d_MO_closeRun_63 ?_
      rw [show (su (su (su S 44 13 (nI q)) 53 0 ((S 53 0) - (S 52 (3 * q)))) 53 1 ((S 53 1) - (S 52 (3 * q + 1)))) 52 (3 * q + 2) = S 52 (3 * q + 2) from by rw [su_cell _ _ _ (by decide), su_cell _ _ _ (by decide), su_cell _ _ _ (by decide)]]
      refine lv_isub hx hb d_MO_closeRun_64 ?_
      refine r_ist hx hb hC hP hS (53) (by decide) (fun _ => rfl) 2 rfl (by decide) (by decide) d_MO_closeRun_65 (fun H locs hP hS => ?_)
      refine lv_aload_n hx hb d_MO_closeRun_66 rfl (lv_at hl 3 rfl) ?_
      refine r_get hx hb hC hP i_MO (44) (by decide) rfl rfl 14 (by decide) l_MO_35 rfl d_MO_closeRun_67 ?_
      refine lv_iconst (v := 3) hx hb d_MO_closeRun_70 (by decide) ?_
      refine lv_aload_n hx hb d_MO_closeRun_71 rfl (lv_at hl 3 rfl) ?_
      refine r_get hx hb hC hP i_MO (44) (by decide) rfl rfl 13 (by decide) l_MO_111 rfl d_MO_closeRun_72 ?_
      rw [show (su (su (su (su S 44 13 (nI q)) 53 0 ((S 53 0) - (S 52 (3 * q)))) 53 1 ((S 53 1) - (S 52 (3 * q + 1)))) 53 2 ((S 53 2) - (S 52 (3 * q + 2)))) 44 13 = nI q from by rw [su_cell _ _ _ (by decide), su_cell _ _ _ (by decide), su_cell _ _ _ (by decide), su_same]]
      refine lv_imul hx hb d_MO_closeRun_75 ?_
      refine lv_iload hx hb d_MO_closeRun_76 (lv_at hl 0 rfl) ?_
      refine lv_iadd hx hb d_MO_closeRun_78 ?_
      rw [show (3 * (nI q)) + 2 = nI (3 * q + 2) from (nI_m3 q 2)]
      refine r_ild hx hb hC hP (52) (by decide) rfl (3 * q + 2) rfl (by omega) (by decide) d_MO_closeRun_79 ?_
      rw [show (su (su (su (su S 44 13 (nI q)) 53 0 ((S 53 0) - (S 52 (3 * q)))) 53 1 ((S 53 1) - (S 52 (3 * q + 1)))) 53 2 ((S 53 2) - (S 52 (3 * q + 2)))) 52 (3 * q + 2) = S 52 (3 * q + 2) from by rw [su_cell _ _ _ (by decide), su_cell _ _ _ (by decide), su_cell _ _ _ (by decide), su_cell _ _ _ (by decide)]]
      refine lv_if_le (tgt := 86) hx hb d_MO_closeRun_80 (by decide) (fun c_80xx => ?_) (fun c_80xx => ?_)
      · refine lv_iinc (v := 3) (lv' := [(5, .int 3), (4, .int 1), (3, .int (S 44 10)), (0, .ref (gA G 44)), (1, .int bk), (2, .int mi)]) hx hb d_MO_closeRun_86 hl (k := 0) rfl (by decide) (by decide) rfl (fun ls hl => ?_)
        refine lv_goto (tgt := 36) hx hb d_MO_closeRun_89 (by decide) ?_
        refine lv_iload hx hb d_MO_closeRun_36 (lv_at hl 0 rfl) ?_
        refine lv_iconst (v := 3) hx hb d_MO_closeRun_38 (by decide) ?_
        refine lv_icmp_ge (tgt := 92) hx hb d_MO_closeRun_39 (by decide) (fun _ => ?_) (fun h => absurd h (by decide))
        refine lv_iload hx hb d_MO_closeRun_92 (lv_at hl 1 rfl) ?_
        refine lv_if_eq (tgt := 118) hx hb d_MO_closeRun_94 (by decide) (fun h => absurd h (by decide)) (fun _ => ?_)
        refine lv_aload_n hx hb d_MO_closeRun_97 rfl (lv_at hl 3 rfl) ?_
        refine lv_iconst (v := 4) hx hb d_MO_closeRun_98 (by decide) ?_
        refine lv_aload_n hx hb d_MO_closeRun_99 rfl (lv_at hl 3 rfl) ?_
        refine r_get hx hb hC hP i_MO (44) (by decide) rfl rfl 11 (by decide) l_MO_92 rfl d_MO_closeRun_100 ?_
        rw [show (su (su (su (su S 44 13 (nI q)) 53 0 ((S 53 0) - (S 52 (3 * q)))) 53 1 ((S 53 1) - (S 52 (3 * q + 1)))) 53 2 ((S 53 2) - (S 52 (3 * q + 2)))) 44 11 = S 44 11 from by rw [su_cell _ _ _ (by decide), su_cell _ _ _ (by decide), su_cell _ _ _ (by decide), su_int _ _ _ (by decide)]]
        rw [show S 44 11 = 4 from he]
        refine lv_iconst (v := 4) hx hb d_MO_closeRun_103 (by decide) ?_
        refine lv_icmp_ne (tgt := 114) hx hb d_MO_closeRun_104 (by decide) (fun h => absurd h (by decide)) (fun _ => ?_)
        refine lv_aload_n hx hb d_MO_closeRun_107 rfl (lv_at hl 3 rfl) ?_
        refine r_get hx hb hC hP i_MO (44) (by decide) rfl rfl 12 (by decide) l_MO_95 rfl d_MO_closeRun_108 ?_
        rw [show (su (su (su (su S 44 13 (nI q)) 53 0 ((S 53 0) - (S 52 (3 * q)))) 53 1 ((S 53 1) - (S 52 (3 * q + 1)))) 53 2 ((S 53 2) - (S 52 (3 * q + 2)))) 44 12 = S 44 12 from by rw [su_cell _ _ _ (by decide), su_cell _ _ _ (by decide), su_cell _ _ _ (by decide), su_int _ _ _ (by decide)]]
        refine lv_goto (tgt := 115) hx hb d_MO_closeRun_111 (by decide) ?_
        refine r_v hC hS (r_runV (np := 2) (As := [.int 4, .int (S 44 12)]) (rest := []) hx hb hml hC hP hS (by decide) rfl rfl (m_MO_raise l G (su (su (su (su S 44 13 (nI q)) 53 0 ((S 53 0) - (S 52 (3 * q)))) 53 1 ((S 53 1) - (S 52 (3 * q + 1)))) 53 2 ((S 53 2) - (S 52 (3 * q + 2)))) n (by omega) (by rw [su_cell _ _ _ (by decide), su_cell _ _ _ (by decide), su_cell _ _ _ (by decide), su_int _ _ _ (by decide)]; exact hn) 4 (S 44 12)) l_MO_124 im_MO_raise se_MO_raise in_MO c_MO_raise_in (by decide +kernel) ⟨by simp only [rmF]; omega, by simp only [rmF]; omega⟩ rfl hl.1 (Nat.le_of_ble_eq_true rfl) d_MO_closeRun_115 ⟨Nat.le_refl _, Nat.le_refl _⟩) (fun S_115 H locs hw hP hS => ?_)
        rw [hw] at hP
        refine lv_aload_n hx hb d_MO_closeRun_118 rfl (lv_at hl 3 rfl) ?_
        refine r_get hx hb hC hP i_MO (44) (by decide) rfl rfl 11 (by decide) l_MO_92 rfl d_MO_closeRun_119 ?_
        rw [show (moRaise (su (su (su (su S 44 13 (nI q)) 53 0 ((S 53 0) - (S 52 (3 * q)))) 53 1 ((S 53 1) - (S 52 (3 * q + 1)))) 53 2 ((S 53 2) - (S 52 (3 * q + 2)))) n 4 (S 44 12)) 44 11 = 4 from (moRaise_11 _ _ _ _)]
        refine lv_iconst (v := 4) hx hb d_MO_closeRun_122 (by decide) ?_
        refine lv_icmp_ne (tgt := 132) hx hb d_MO_closeRun_123 (by decide) (fun h => absurd h (by decide)) (fun _ => ?_)
        refine lv_aload_n hx hb d_MO_closeRun_126 rfl (lv_at hl 3 rfl) ?_
        refine lv_iload_n hx hb d_MO_closeRun_127 rfl (lv_at hl 5 rfl) ?_
        refine r_put hx hb hC hP hS i_MO t_MO t_MO_ok n_MO (44) (by decide) rfl rfl 10 (by decide) l_MO_121 rfl rfl rfl (Nat.le_of_ble_eq_true rfl) d_MO_closeRun_128 (fun H locs hP hS => ?_)
        exact e_v hx hb hr hlk hC hP hS d_MO_closeRun_131 rfl
      · refine lv_iconst (v := 1) hx hb d_MO_closeRun_83 (by decide) ?_
        refine lv_istore (lv' := [(4, .int 1), (5, .int 2), (3, .int (S 44 10)), (0, .ref (gA G 44)), (1, .int bk), (2, .int mi)]) hx hb d_MO_closeRun_84 hl (by decide) rfl (fun ls hl => ?_)
        refine lv_iinc (v := 3) (lv' := [(5, .int 3), (4, .int 1), (3, .int (S 44 10)), (0, .ref (gA G 44)), (1, .int bk), (2, .int mi)]) hx hb d_MO_closeRun_86 hl (k := 1) rfl (by decide) (by decide) rfl (fun ls hl => ?_)
        refine lv_goto (tgt := 36) hx hb d_MO_closeRun_89 (by decide) ?_
        refine lv_iload hx hb d_MO_closeRun_36 (lv_at hl 0 rfl) ?_
        refine lv_iconst (v := 3) hx hb d_MO_closeRun_38 (by decide) ?_
        refine lv_icmp_ge (tgt := 92) hx hb d_MO_closeRun_39 (by decide) (fun _ => ?_) (fun h => absurd h (by decide))
        refine lv_iload hx hb d_MO_closeRun_92 (lv_at hl 1 rfl) ?_
        refine lv_if_eq (tgt := 118) hx hb d_MO_closeRun_94 (by decide) (fun h => absurd h (by decide)) (fun _ => ?_)
        refine lv_aload_n hx hb d_MO_closeRun_97 rfl (lv_at hl 3 rfl) ?_
        refine lv_iconst (v := 4) hx hb d_MO_closeRun_98 (by decide) ?_
        refine lv_aload_n hx hb d_MO_closeRun_99 rfl (lv_at hl 3 rfl) ?_
        refine r_get hx hb hC hP i_MO (44) (by decide) rfl rfl 11 (by decide) l_MO_92 rfl d_MO_closeRun_100 ?_
        rw [show (su (su (su (su S 44 13 (nI q)) 53 0 ((S 53 0) - (S 52 (3 * q)))) 53 1 ((S 53 1) - (S 52 (3 * q + 1)))) 53 2 ((S 53 2) - (S 52 (3 * q + 2)))) 44 11 = S 44 11 from by rw [su_cell _ _ _ (by decide), su_cell _ _ _ (by decide), su_cell _ _ _ (by decide), su_int _ _ _ (by decide)]]
        rw [show S 44 11 = 4 from he]
        refine lv_iconst (v := 4) hx hb d_MO_closeRun_103 (by decide) ?_
        refine lv_icmp_ne (tgt := 114) hx hb d_MO_closeRun_104 (by decide) (fun h => absurd h (by decide)) (fun _ => ?_)
        refine lv_aload_n hx hb d_MO_closeRun_107 rfl (lv_at hl 3 rfl) ?_
        refine r_get hx hb hC hP i_MO (44) (by decide) rfl rfl 12 (by decide) l_MO_95 rfl d_MO_closeRun_108 ?_
        rw [show (su (su (su (su S 44 13 (nI q)) 53 0 ((S 53 0) - (S 52 (3 * q)))) 53 1 ((S 53 1) - (S 52 (3 * q + 1)))) 53 2 ((S 53 2) - (S 52 (3 * q + 2)))) 44 12 = S 44 12 from by rw [su_cell _ _ _ (by decide), su_cell _ _ _ (by decide), su_cell _ _ _ (by decide), su_int _ _ _ (by decide)]]
        refine lv_goto (tgt := 115) hx hb d_MO_closeRun_111 (by decide) ?_
        refine r_v hC hS (r_runV (np := 2) (As := [.int 4, .int (S 44 12)]) (rest := []) hx hb hml hC hP hS (by decide) rfl rfl (m_MO_raise l G (su (su (su (su S 44 13 (nI q)) 53 0 ((S 53 0) - (S 52 (3 * q)))) 53 1 ((S 53 1) - (S 52 (3 * q + 1)))) 53 2 ((S 53 2) - (S 52 (3 * q + 2)))) n (by omega) (by rw [su_cell _ _ _ (by decide), su_cell _ _ _ (by decide), su_cell _ _ _ (by decide), su_int _ _ _ (by decide)]; exact hn) 4 (S 44 12)) l_MO_124 im_MO_raise se_MO_raise in_MO c_MO_raise_in (by decide +kernel) ⟨by simp only [rmF]; omega, by simp only [rmF]; omega⟩ rfl hl.1 (Nat.le_of_ble_eq_true rfl) d_MO_closeRun_115 ⟨Nat.le_refl _, Nat.le_refl _⟩) (fun S_115 H locs hw hP hS => ?_)
        rw [hw] at hP
        refine lv_aload_n hx hb d_MO_closeRun_118 rfl (lv_at hl 3 rfl) ?_
        refine r_get hx hb hC hP i_MO (44) (by decide) rfl rfl 11 (by decide) l_MO_92 rfl d_MO_closeRun_119 ?_
        rw [show (moRaise (su (su (su (su S 44 13 (nI q)) 53 0 ((S 53 0) - (S 52 (3 * q)))) 53 1 ((S 53 1) - (S 52 (3 * q + 1)))) 53 2 ((S 53 2) - (S 52 (3 * q + 2)))) n 4 (S 44 12)) 44 11 = 4 from (moRaise_11 _ _ _ _)]
        refine lv_iconst (v := 4) hx hb d_MO_closeRun_122 (by decide) ?_
        refine lv_icmp_ne (tgt := 132) hx hb d_MO_closeRun_123 (by decide) (fun h => absurd h (by decide)) (fun _ => ?_)
        refine lv_aload_n hx hb d_MO_closeRun_126 rfl (lv_at hl 3 rfl) ?_
        refine lv_iload_n hx hb d_MO_closeRun_127 rfl (lv_at hl 5 rfl) ?_
        refine r_put hx hb hC hP hS i_MO t_MO t_MO_ok n_MO (44) (by decide) rfl rfl 10 (by decide) l_MO_121 rfl rfl rfl (Nat.le_of_ble_eq_true rfl) d_MO_closeRun_128 (fun H locs hP hS => ?_)
        exact e_v hx hb hr hlk hC hP hS d_MO_closeRun_131 rfl
    · refine lv_iconst (v := 1) hx hb d_MO_closeRun_83 (by decide) ?_
      refine lv_istore (lv' := [(4, .int 1), (5, .int 1), (3, .int (S 44 10)), (0, .ref (gA G 44)), (1, .int bk), (2, .int mi)]) hx hb d_MO_closeRun_84 hl (by decide) rfl (fun ls hl => ?_)
      refine lv_iinc (v := 2) (lv' := [(5, .int 2), (4, .int 1), (3, .int (S 44 10)), (0, .ref (gA G 44)), (1, .int bk), (2, .int mi)]) hx hb d_MO_closeRun_86 hl (k := 1) rfl (by decide) (by decide) rfl (fun ls hl => ?_)
      refine lv_goto (tgt := 36) hx hb d_MO_closeRun_89 (by decide) ?_
      refine lv_iload hx hb d_MO_closeRun_36 (lv_at hl 0 rfl) ?_
      refine lv_iconst (v := 3) hx hb d_MO_closeRun_38 (by decide) ?_
      refine lv_icmp_ge (tgt := 92) hx hb d_MO_closeRun_39 (by decide) (fun h => absurd h (by decide)) (fun _ => ?_)
      refine lv_aload_n hx hb d_MO_closeRun_42 rfl (lv_at hl 3 rfl) ?_
      refine r_get hx hb hC hP i_MO (44) (by decide) rfl rfl 15 (by decide) l_MO_38 rfl d_MO_closeRun_43 ?_
      refine lv_iload hx hb d_MO_closeRun_46 (lv_at hl 0 rfl) ?_
      refine lv_dup2_11 hx hb d_MO_closeRun_48 rfl rfl ?_
      refine r_ild hx hb hC hP (53) (by decide) rfl 2 rfl (by decide) (by decide) d_MO_closeRun_49 ?_
      rw [show (su (su (su S 44 13 (nI q)) 53 0 ((S 53 0) - (S 52 (3 * q)))) 53 1 ((S 53 1) - (S 52 (3 * q + 1)))) 53 2 = S 53 2 from by rw [su_int _ _ _ (by decide), su_int _ _ _ (by decide), su_cell _ _ _ (by decide)]]
      refine lv_aload_n hx hb d_MO_closeRun_50 rfl (lv_at hl 3 rfl) ?_
      refine r_get hx hb hC hP i_MO (44) (by decide) rfl rfl 14 (by decide) l_MO_35 rfl d_MO_closeRun_51 ?_
      refine lv_iconst (v := 3) hx hb d_MO_closeRun_54 (by decide) ?_
      refine lv_aload_n hx hb d_MO_closeRun_55 rfl (lv_at hl 3 rfl) ?_
      refine r_get hx hb hC hP i_MO (44) (by decide) rfl rfl 13 (by decide) l_MO_111 rfl d_MO_closeRun_56 ?_
      rw [show (su (su (su S 44 13 (nI q)) 53 0 ((S 53 0) - (S 52 (3 * q)))) 53 1 ((S 53 1) - (S 52 (3 * q + 1)))) 44 13 = nI q from by rw [su_cell _ _ _ (by decide), su_cell _ _ _ (by decide), su_same]]
      refine lv_imul hx hb d_MO_closeRun_59 ?_
      refine lv_iload hx hb d_MO_closeRun_60 (lv_at hl 0 rfl) ?_
      refine lv_iadd hx hb d_MO_closeRun_62 ?_
      rw [show (3 * (nI q)) + 2 = nI (3 * q + 2) from (nI_m3 q 2)]
      refine r_ild hx hb hC hP (52) (by decide) rfl (3 * q + 2) rfl (by omega) (by decide) d_MO_closeRun_63 ?_
      rw [show (su (su (su S 44 13 (nI q)) 53 0 ((S 53 0) - (S 52 (3 * q)))) 53 1 ((S 53 1) - (S 52 (3 * q + 1)))) 52 (3 * q + 2) = S 52 (3 * q + 2) from by rw [su_cell _ _ _ (by decide), su_cell _ _ _ (by decide), su_cell _ _ _ (by decide)]]
      refine lv_isub hx hb d_MO_closeRun_64 ?_
      refine r_ist hx hb hC hP hS (53) (by decide) (fun _ => rfl) 2 rfl (by decide) (by decide) d_MO_closeRun_65 (fun H locs hP hS => ?_)
      refine lv_aload_n hx hb d_MO_closeRun_66 rfl (lv_at hl 3 rfl) ?_
      refine r_get hx hb hC hP i_MO (44) (by decide) rfl rfl 14 (by decide) l_MO_35 rfl d_MO_closeRun_67 ?_
      refine lv_iconst (v := 3) hx hb d_MO_closeRun_70 (by decide) ?_
      refine lv_aload_n hx hb d_MO_closeRun_71 rfl (lv_at hl 3 rfl) ?_
      refine r_get hx hb hC hP i_MO (44) (by decide) rfl rfl 13 (by decide) l_MO_111 rfl d_MO_closeRun_72 ?_
      rw [show (su (su (su (su S 44 13 (nI q)) 53 0 ((S 53 0) - (S 52 (3 * q)))) 53 1 ((S 53 1) - (S 52 (3 * q + 1)))) 53 2 ((S 53 2) - (S 52 (3 * q + 2)))) 44 13 = nI q from by rw [su_cell _ _ _ (by decide), su_cell _ _ _ (by decide), su_cell _ _ _ (by decide), su_same]]
      refine lv_imul hx hb d_MO_closeRun_75 ?_
      refine lv_iload hx hb d_MO_closeRun_76 (lv_at hl 0 rfl) ?_
      refine lv_iadd hx hb d_MO_closeRun_78 ?_
      rw [show (3 * (nI q)) + 2 = nI (3 * q + 2) from (nI_m3 q 2)]
      refine r_ild hx hb hC hP (52) (by decide) rfl (3 * q + 2) rfl (by omega) (by decide) d_MO_closeRun_79 ?_
      rw [show (su (su (su (su S 44 13 (nI q)) 53 0 ((S 53 0) - (S 52 (3 * q)))) 53 1 ((S 53 1) - (S 52 (3 * q + 1)))) 53 2 ((S 53 2) - (S 52 (3 * q + 2)))) 52 (3 * q + 2) = S 52 (3 * q + 2) from by rw [su_cell _ _ _ (by decide), su_cell _ _ _ (by decide), su_cell _ _ _ (by decide), su_cell _ _ _ (by decide)]]
      refine lv_if_le (tgt := 86) hx hb d_MO_closeRun_80 (by decide) (fun c_80xx => ?_) (fun c_80xx => ?_)
      · refine lv_iinc (v := 3) (lv' := [(5, .int 3), (4, .int 1), (3, .int (S 44 10)), (0, .ref (gA G 44)), (1, .int bk), (2, .int mi)]) hx hb d_MO_closeRun_86 hl (k := 0) rfl (by decide) (by decide) rfl (fun ls hl => ?_)
        refine lv_goto (tgt := 36) hx hb d_MO_closeRun_89 (by decide) ?_
        refine lv_iload hx hb d_MO_closeRun_36 (lv_at hl 0 rfl) ?_
        refine lv_iconst (v := 3) hx hb d_MO_closeRun_38 (by decide) ?_
        refine lv_icmp_ge (tgt := 92) hx hb d_MO_closeRun_39 (by decide) (fun _ => ?_) (fun h => absurd h (by decide))
        refine lv_iload hx hb d_MO_closeRun_92 (lv_at hl 1 rfl) ?_
        refine lv_if_eq (tgt := 118) hx hb d_MO_closeRun_94 (by decide) (fun h => absurd h (by decide)) (fun _ => ?_)
        refine lv_aload_n hx hb d_MO_closeRun_97 rfl (lv_at hl 3 rfl) ?_
        refine lv_iconst (v := 4) hx hb d_MO_closeRun_98 (by decide) ?_
        refine lv_aload_n hx hb d_MO_closeRun_99 rfl (lv_at hl 3 rfl) ?_
        refine r_get hx hb hC hP i_MO (44) (by decide) rfl rfl 11 (by decide) l_MO_92 rfl d_MO_closeRun_100 ?_
        rw [show (su (su (su (su S 44 13 (nI q)) 53 0 ((S 53 0) - (S 52 (3 * q)))) 53 1 ((S 53 1) - (S 52 (3 * q + 1)))) 53 2 ((S 53 2) - (S 52 (3 * q + 2)))) 44 11 = S 44 11 from by rw [su_cell _ _ _ (by decide), su_cell _ _ _ (by decide), su_cell _ _ _ (by decide), su_int _ _ _ (by decide)]]
        rw [show S 44 11 = 4 from he]
        refine lv_iconst (v := 4) hx hb d_MO_closeRun_103 (by decide) ?_
        refine lv_icmp_ne (tgt := 114) hx hb d_MO_closeRun_104 (by decide) (fun h => absurd h (by decide)) (fun _ => ?_)
        refine lv_aload_n hx hb d_MO_closeRun_107 rfl (lv_at hl 3 rfl) ?_
        refine r_get hx hb hC hP i_MO (44) (by decide) rfl rfl 12 (by decide) l_MO_95 rfl d_MO_closeRun_108 ?_
        rw [show (su (su (su (su S 44 13 (nI q)) 53 0 ((S 53 0) - (S 52 (3 * q)))) 53 1 ((S 53 1) - (S 52 (3 * q + 1)))) 53 2 ((S 53 2) - (S 52 (3 * q + 2)))) 44 12 = S 44 12 from by rw [su_cell _ _ _ (by decide), su_cell _ _ _ (by decide), su_cell _ _ _ (by decide), su_int _ _ _ (by decide)]]
        refine lv_goto (tgt := 115) hx hb d_MO_closeRun_111 (by decide) ?_
        refine r_v hC hS (r_runV (np := 2) (As := [.int 4, .int (S 44 12)]) (rest := []) hx hb hml hC hP hS (by decide) rfl rfl (m_MO_raise l G (su (su (su (su S 44 13 (nI q)) 53 0 ((S 53 0) - (S 52 (3 * q)))) 53 1 ((S 53 1) - (S 52 (3 * q + 1)))) 53 2 ((S 53 2) - (S 52 (3 * q + 2)))) n (by omega) (by rw [su_cell _ _ _ (by decide), su_cell _ _ _ (by decide), su_cell _ _ _ (by decide), su_int _ _ _ (by decide)]; exact hn) 4 (S 44 12)) l_MO_124 im_MO_raise se_MO_raise in_MO c_MO_raise_in (by decide +kernel) ⟨by simp only [rmF]; omega, by simp only [rmF]; omega⟩ rfl hl.1 (Nat.le_of_ble_eq_true rfl) d_MO_closeRun_115 ⟨Nat.le_refl _, Nat.le_refl _⟩) (fun S_115 H locs hw hP hS => ?_)
        rw [hw] at hP
        refine lv_aload_n hx hb d_MO_closeRun_118 rfl (lv_at hl 3 rfl) ?_
        refine r_get hx hb hC hP i_MO (44) (by decide) rfl rfl 11 (by decide) l_MO_92 rfl d_MO_closeRun_119 ?_
        rw [show (moRaise (su (su (su (su S 44 13 (nI q)) 53 0 ((S 53 0) - (S 52 (3 * q)))) 53 1 ((S 53 1) - (S 52 (3 * q + 1)))) 53 2 ((S 53 2) - (S 52 (3 * q + 2)))) n 4 (S 44 12)) 44 11 = 4 from (moRaise_11 _ _ _ _)]
        refine lv_iconst (v := 4) hx hb d_MO_closeRun_122 (by decide) ?_
        refine lv_icmp_ne (tgt := 132) hx hb d_MO_closeRun_123 (by decide) (fun h => absurd h (by decide)) (fun _ => ?_)
        refine lv_aload_n hx hb d_MO_closeRun_126 rfl (lv_at hl 3 rfl) ?_
        refine lv_iload_n hx hb d_MO_closeRun_127 rfl (lv_at hl 5 rfl) ?_
        refine r_put hx hb hC hP hS i_MO t_MO t_MO_ok n_MO (44) (by decide) rfl rfl 10 (by decide) l_MO_121 rfl rfl rfl (Nat.le_of_ble_eq_true rfl) d_MO_closeRun_128 (fun H locs hP hS => ?_)
        exact e_v hx hb hr hlk hC hP hS d_MO_closeRun_131 rfl
      · refine lv_iconst (v := 1) hx hb d_MO_closeRun_83 (by decide) ?_
        refine lv_istore (lv' := [(4, .int 1), (5, .int 2), (3, .int (S 44 10)), (0, .ref (gA G 44)), (1, .int bk), (2, .int mi)]) hx hb d_MO_closeRun_84 hl (by decide) rfl (fun ls hl => ?_)
        refine lv_iinc (v := 3) (lv' := [(5, .int 3), (4, .int 1), (3, .int (S 44 10)), (0, .ref (gA G 44)), (1, .int bk), (2, .int mi)]) hx hb d_MO_closeRun_86 hl (k := 1) rfl (by decide) (by decide) rfl (fun ls hl => ?_)
        refine lv_goto (tgt := 36) hx hb d_MO_closeRun_89 (by decide) ?_
        refine lv_iload hx hb d_MO_closeRun_36 (lv_at hl 0 rfl) ?_
        refine lv_iconst (v := 3) hx hb d_MO_closeRun_38 (by decide) ?_
        refine lv_icmp_ge (tgt := 92) hx hb d_MO_closeRun_39 (by decide) (fun _ => ?_) (fun h => absurd h (by decide))
        refine lv_iload hx hb d_MO_closeRun_92 (lv_at hl 1 rfl) ?_
        refine lv_if_eq (tgt := 118) hx hb d_MO_closeRun_94 (by decide) (fun h => absurd h (by decide)) (fun _ => ?_)
        refine lv_aload_n hx hb d_MO_closeRun_97 rfl (lv_at hl 3 rfl) ?_
        refine lv_iconst (v := 4) hx hb d_MO_closeRun_98 (by decide) ?_
        refine lv_aload_n hx hb d_MO_closeRun_99 rfl (lv_at hl 3 rfl) ?_
        refine r_get hx hb hC hP i_MO (44) (by decide) rfl rfl 11 (by decide) l_MO_92 rfl d_MO_closeRun_100 ?_
        rw [show (su (su (su (su S 44 13 (nI q)) 53 0 ((S 53 0) - (S 52 (3 * q)))) 53 1 ((S 53 1) - (S 52 (3 * q + 1)))) 53 2 ((S 53 2) - (S 52 (3 * q + 2)))) 44 11 = S 44 11 from by rw [su_cell _ _ _ (by decide), su_cell _ _ _ (by decide), su_cell _ _ _ (by decide), su_int _ _ _ (by decide)]]
        rw [show S 44 11 = 4 from he]
        refine lv_iconst (v := 4) hx hb d_MO_closeRun_103 (by decide) ?_
        refine lv_icmp_ne (tgt := 114) hx hb d_MO_closeRun_104 (by decide) (fun h => absurd h (by decide)) (fun _ => ?_)
        refine lv_aload_n hx hb d_MO_closeRun_107 rfl (lv_at hl 3 rfl) ?_
        refine r_get hx hb hC hP i_MO (44) (by decide) rfl rfl 12 (by decide) l_MO_95 rfl d_MO_closeRun_108 ?_
        rw [show (su (su (su (su S 44 13 (nI q)) 53 0 ((S 53 0) - (S 52 (3 * q)))) 53 1 ((S 53 1) - (S 52 (3 * q + 1)))) 53 2 ((S 53 2) - (S 52 (3 * q + 2)))) 44 12 = S 44 12 from by rw [su_cell _ _ _ (by decide), su_cell _ _ _ (by decide), su_cell _ _ _ (by decide), su_int _ _ _ (by decide)]]
        refine lv_goto (tgt := 115) hx hb d_MO_closeRun_111 (by decide) ?_
        refine r_v hC hS (r_runV (np := 2) (As := [.int 4, .int (S 44 12)]) (rest := []) hx hb hml hC hP hS (by decide) rfl rfl (m_MO_raise l G (su (su (su (su S 44 13 (nI q)) 53 0 ((S 53 0) - (S 52 (3 * q)))) 53 1 ((S 53 1) - (S 52 (3 * q + 1)))) 53 2 ((S 53 2) - (S 52 (3 * q + 2)))) n (by omega) (by rw [su_cell _ _ _ (by decide), su_cell _ _ _ (by decide), su_cell _ _ _ (by decide), su_int _ _ _ (by decide)]; exact hn) 4 (S 44 12)) l_MO_124 im_MO_raise se_MO_raise in_MO c_MO_raise_in (by decide +kernel) ⟨by simp only [rmF]; omega, by simp only [rmF]; omega⟩ rfl hl.1 (Nat.le_of_ble_eq_true rfl) d_MO_closeRun_115 ⟨Nat.le_refl _, Nat.le_refl _⟩) (fun S_115 H locs hw hP hS => ?_)
        rw [hw] at hP
        refine lv_aload_n hx hb d_MO_closeRun_118 rfl (lv_at hl 3 rfl) ?_
        refine r_get hx hb hC hP i_MO (44) (by decide) rfl rfl 11 (by decide) l_MO_92 rfl d_MO_closeRun_119 ?_
        rw [show (moRaise (su (su (su (su S 44 13 (nI q)) 53 0 ((S 53 0) - (S 52 (3 * q)))) 53 1 ((S 53 1) - (S 52 (3 * q + 1)))) 53 2 ((S 53 2) - (S 52 (3 * q + 2)))) n 4 (S 44 12)) 44 11 = 4 from (moRaise_11 _ _ _ _)]
        refine lv_iconst (v := 4) hx hb d_MO_closeRun_122 (by decide) ?_
        refine lv_icmp_ne (tgt := 132) hx hb d_MO_closeRun_123 (by decide) (fun h => absurd h (by decide)) (fun _ => ?_)
        refine lv_aload_n hx hb d_MO_closeRun_126 rfl (lv_at hl 3 rfl) ?_
        refine lv_iload_n hx hb d_MO_closeRun_127 rfl (lv_at hl 5 rfl) ?_
        refine r_put hx hb hC hP hS i_MO t_MO t_MO_ok n_MO (44) (by decide) rfl rfl 10 (by decide) l_MO_121 rfl rfl rfl (Nat.le_of_ble_eq_true rfl) d_MO_closeRun_128 (fun H locs hP hS => ?_)
        exact e_v hx hb hr hlk hC hP hS d_MO_closeRun_131 rfl

