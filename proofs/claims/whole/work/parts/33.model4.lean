/-! reference: token, wipe, event, fault: written by wip/gen/p33.py -/
theorem inB_nI {v : Int32} {b : Nat} (hb : b < 2 ^ 31) (h : inB v 0 (nI b) = true) : ∃ j : Nat, j ≤ b ∧ v = nI j := by
  have h0 := (Bool.and_eq_true _ _).mp h
  have h1 : 0 ≤ v := of_decide_eq_true h0.1
  have h2 : v ≤ nI b := of_decide_eq_true h0.2
  obtain ⟨j, hj, rfl⟩ := nI_of (Int32.not_lt.mpr h1)
  exact ⟨j, (nI_leI hj hb).mp h2, rfl⟩
theorem nI_32 (p j : Nat) : (32 : Int32) * nI p + nI j = nI (32 * p + j) := by
  rw [show (32 : Int32) = nI 32 from rfl, pk_mul, nI_add]
def moTok (S : SS) (p n : Nat) (o a : Int32) : SS := su (su (su S 45 (32 * p + n) o) 46 (32 * p + n) a) 47 p (nI (n + 1))
def moTokPost (S : SS) (nn : Nat → Nat) (p_ o a r : Int32) (S1 : SS) : Prop := ((inB p_ 0 3 = false ∨ fitM o a = false) ∧ r = -1 ∧ S1 = S) ∨ ∃ p, p < 4 ∧ p_ = nI p ∧ fitM o a = true ∧ ((nn p = 32 ∧ r = -2 ∧ S1 = S) ∨ (¬ nn p = 32 ∧ r = nI (nn p + 1) ∧ S1 = moTok S p (nn p) o a))
set_option maxHeartbeats 4000000 in
set_option maxRecDepth 100000 in
theorem m_MO_token (l : Launch) (G : WG) (S : SS) (nn : Nat → Nat) (hnn : ∀ p, p < 4 → nn p ≤ 32 ∧ S 47 p = nI (nn p)) (p_ o a : Int32) : Ci l y_MO_token b_MO_token 4 (some (.int)) 2 G [.ref (gA G 44), .int p_, .int o, .int a] S (moTokPost S nn p_ o a) := by
  refine mk l (by decide +kernel) (Nat.le_of_ble_eq_true rfl) ?_
  intro pp_ ee_ ss_ mm_ be_ me_ co_ ls hx hb hr hlk hml hC hP hS hl
  have hl : lv_has ls 4 [(0, .ref (gA G 44)), (1, .int p_), (2, .int o), (3, .int a)] := hl
  refine lv_iload_n hx hb d_MO_token_0 rfl (lv_at hl 1 rfl) ?_
  refine lv_iconst (v := 0) hx hb d_MO_token_1 (by decide) ?_
  refine lv_iconst (v := 3) hx hb d_MO_token_2 (by decide) ?_
  refine r_i hC hS (r_runS (np := 3) (As := [.int p_, .int 0, .int 3]) (rest := []) hx hb hml hC hP hS (m_MO_in l G S p_ 0 3) l_MO_50 st_MO_in in_MO c_MO_in_in (by decide +kernel) ⟨by simp only [rmF]; omega, by simp only [rmF]; omega⟩ rfl hl.1 (Nat.le_of_ble_eq_true rfl) d_MO_token_3 ⟨Nat.le_refl _, Nat.le_refl _⟩) (fun r_3 S_3 H locs hw hP hS => ?_)
  obtain ⟨rfl, hSe⟩ := hw
  rw [hSe] at hP
  refine lv_if_eq (tgt := 17) hx hb d_MO_token_6 (by decide) (fun c_6 => ?_) (fun c_6 => ?_)
  · have c_6 := b2i_f c_6
    refine lv_iconst (v := (-1)) hx hb d_MO_token_17 (by decide) ?_
    exact e_i hx hb hr hlk hC hP hS d_MO_token_18 (Or.inl ⟨by first | exact Or.inl (by assumption) | exact Or.inr (by assumption), rfl, rfl⟩)
  · have c_6 := b2i_t c_6
    obtain ⟨p, hp3, rfl⟩ := inB_nI (b := 3) (by omega) c_6
    have hnp := hnn p (by omega)
    refine lv_iload_n hx hb d_MO_token_9 rfl (lv_at hl 2 rfl) ?_
    refine lv_iload_n hx hb d_MO_token_10 rfl (lv_at hl 3 rfl) ?_
    refine r_i hC hS (r_runS (np := 2) (As := [.int o, .int a]) (rest := []) hx hb hml hC hP hS (m_MO_fits l G S o a) l_MO_54 st_MO_fits in_MO c_MO_fits_in (by decide +kernel) ⟨by simp only [rmF]; omega, by simp only [rmF]; omega⟩ rfl hl.1 (Nat.le_of_ble_eq_true rfl) d_MO_token_11 ⟨Nat.le_refl _, Nat.le_refl _⟩) (fun r_11 S_11 H locs hw hP hS => ?_)
    obtain ⟨rfl, hSe⟩ := hw
    rw [hSe] at hP
    refine lv_if_ne (tgt := 19) hx hb d_MO_token_14 (by decide) (fun c_14 => ?_) (fun c_14 => ?_)
    · have c_14 := b2i_t c_14
      refine lv_aload_n hx hb d_MO_token_19 rfl (lv_at hl 0 rfl) ?_
      refine r_get hx hb hC hP i_MO (44) (by decide) rfl rfl 2 (by decide) l_MO_16 rfl d_MO_token_20 ?_
      refine lv_iload_n hx hb d_MO_token_23 rfl (lv_at hl 1 rfl) ?_
      refine r_ild hx hb hC hP (47) (by decide) rfl p rfl (by omega) (by decide) d_MO_token_24 ?_
      rw [show S 47 p = nI (nn p) from hnp.2]
      refine lv_bipush (v := 32) hx hb d_MO_token_25 (by decide) ?_
      refine lv_icmp_ne (tgt := 33) hx hb d_MO_token_27 (by decide) (fun c_27 => ?_) (fun c_27 => ?_)
      · have c_27 : ¬ nn p = 32 := fun h => c_27 ((q_eq (a := nn p) (b := 32) rfl rfl (by omega) (by omega)).mpr h)
        refine lv_aload_n hx hb d_MO_token_33 rfl (lv_at hl 0 rfl) ?_
        refine r_get hx hb hC hP i_MO (44) (by decide) rfl rfl 0 (by decide) l_MO_7 rfl d_MO_token_34 ?_
        refine lv_bipush (v := 32) hx hb d_MO_token_37 (by decide) ?_
        refine lv_iload_n hx hb d_MO_token_39 rfl (lv_at hl 1 rfl) ?_
        refine lv_imul hx hb d_MO_token_40 ?_
        refine lv_aload_n hx hb d_MO_token_41 rfl (lv_at hl 0 rfl) ?_
        refine r_get hx hb hC hP i_MO (44) (by decide) rfl rfl 2 (by decide) l_MO_16 rfl d_MO_token_42 ?_
        refine lv_iload_n hx hb d_MO_token_45 rfl (lv_at hl 1 rfl) ?_
        refine r_ild hx hb hC hP (47) (by decide) rfl p rfl (by omega) (by decide) d_MO_token_46 ?_
        rw [show S 47 p = nI (nn p) from hnp.2]
        refine lv_iadd hx hb d_MO_token_47 ?_
        rw [show (32 * (nI p)) + (nI (nn p)) = nI (32 * p + nn p) from (nI_32 p (nn p))]
        refine lv_iload_n hx hb d_MO_token_48 rfl (lv_at hl 2 rfl) ?_
        refine r_ist hx hb hC hP hS (45) (by decide) (fun _ => rfl) (32 * p + nn p) rfl (by omega) (by decide) d_MO_token_49 (fun H locs hP hS => ?_)
        refine lv_aload_n hx hb d_MO_token_50 rfl (lv_at hl 0 rfl) ?_
        refine r_get hx hb hC hP i_MO (44) (by decide) rfl rfl 1 (by decide) l_MO_13 rfl d_MO_token_51 ?_
        refine lv_bipush (v := 32) hx hb d_MO_token_54 (by decide) ?_
        refine lv_iload_n hx hb d_MO_token_56 rfl (lv_at hl 1 rfl) ?_
        refine lv_imul hx hb d_MO_token_57 ?_
        refine lv_aload_n hx hb d_MO_token_58 rfl (lv_at hl 0 rfl) ?_
        refine r_get hx hb hC hP i_MO (44) (by decide) rfl rfl 2 (by decide) l_MO_16 rfl d_MO_token_59 ?_
        refine lv_iload_n hx hb d_MO_token_62 rfl (lv_at hl 1 rfl) ?_
        refine r_ild hx hb hC hP (47) (by decide) rfl p rfl (by omega) (by decide) d_MO_token_63 ?_
        rw [show (su S 45 (32 * p + nn p) o) 47 p = S 47 p from by rw [su_cell _ _ _ (by decide)]]
        rw [show S 47 p = nI (nn p) from hnp.2]
        refine lv_iadd hx hb d_MO_token_64 ?_
        rw [show (32 * (nI p)) + (nI (nn p)) = nI (32 * p + nn p) from (nI_32 p (nn p))]
        refine lv_iload_n hx hb d_MO_token_65 rfl (lv_at hl 3 rfl) ?_
        refine r_ist hx hb hC hP hS (46) (by decide) (fun _ => rfl) (32 * p + nn p) rfl (by omega) (by decide) d_MO_token_66 (fun H locs hP hS => ?_)
        refine lv_aload_n hx hb d_MO_token_67 rfl (lv_at hl 0 rfl) ?_
        refine r_get hx hb hC hP i_MO (44) (by decide) rfl rfl 2 (by decide) l_MO_16 rfl d_MO_token_68 ?_
        refine lv_iload_n hx hb d_MO_token_71 rfl (lv_at hl 1 rfl) ?_
        refine lv_dup2_11 hx hb d_MO_token_72 rfl rfl ?_
        refine r_ild hx hb hC hP (47) (by decide) rfl p rfl (by omega) (by decide) d_MO_token_73 ?_
        rw [show (su (su S 45 (32 * p + nn p) o) 46 (32 * p + nn p) a) 47 p = S 47 p from by rw [su_cell _ _ _ (by decide), su_cell _ _ _ (by decide)]]
        rw [show S 47 p = nI (nn p) from hnp.2]
        refine lv_iconst (v := 1) hx hb d_MO_token_74 (by decide) ?_
        refine lv_iadd hx hb d_MO_token_75 ?_
        rw [show (nI (nn p)) + 1 = nI (nn p + 1) from nI_1 _]
        refine r_ist hx hb hC hP hS (47) (by decide) (fun _ => rfl) p rfl (by omega) (by decide) d_MO_token_76 (fun H locs hP hS => ?_)
        refine lv_aload_n hx hb d_MO_token_77 rfl (lv_at hl 0 rfl) ?_
        refine r_get hx hb hC hP i_MO (44) (by decide) rfl rfl 2 (by decide) l_MO_16 rfl d_MO_token_78 ?_
        refine lv_iload_n hx hb d_MO_token_81 rfl (lv_at hl 1 rfl) ?_
        refine r_ild hx hb hC hP (47) (by decide) rfl p rfl (by omega) (by decide) d_MO_token_82 ?_
        rw [show (su (su (su S 45 (32 * p + nn p) o) 46 (32 * p + nn p) a) 47 p (nI (nn p + 1))) 47 p = nI (nn p + 1) from by rw [su_same]]
        exact e_i hx hb hr hlk hC hP hS d_MO_token_83 (Or.inr ⟨p, by omega, rfl, by assumption, Or.inr ⟨by omega, rfl, rfl⟩⟩)
      · have c_27 : nn p = 32 := (q_eq (a := nn p) (b := 32) rfl rfl (by omega) (by omega)).mp c_27
        refine lv_bipush (v := (-2)) hx hb d_MO_token_30 (by decide) ?_
        exact e_i hx hb hr hlk hC hP hS d_MO_token_32 (Or.inr ⟨p, by omega, rfl, by assumption, Or.inl ⟨by omega, rfl, rfl⟩⟩)
    · have c_14 := b2i_f c_14
      refine lv_iconst (v := (-1)) hx hb d_MO_token_17 (by decide) ?_
      exact e_i hx hb hr hlk hC hP hS d_MO_token_18 (Or.inl ⟨by first | exact Or.inl (by assumption) | exact Or.inr (by assumption), rfl, rfl⟩)

set_option maxHeartbeats 4000000 in
set_option maxRecDepth 100000 in
theorem m_MO_wipe (l : Launch) (G : WG) (S : SS) (nn : Nat → Nat) (hnn : ∀ p, p < 4 → nn p ≤ 32 ∧ S 47 p = nI (nn p)) (p_ : Int32) : Ci l y_MO_wipe b_MO_wipe 3 (some (.int)) 1 G [.ref (gA G 44), .int p_] S (fun r S1 => (inB p_ 0 3 = false ∧ r = -1 ∧ S1 = S) ∨ ∃ p, p < 4 ∧ p_ = nI p ∧ r = nI (nn p) ∧ S1 = su S 47 p 0) := by
  refine mk l (by decide +kernel) (Nat.le_of_ble_eq_true rfl) ?_
  intro pp_ ee_ ss_ mm_ be_ me_ co_ ls hx hb hr hlk hml hC hP hS hl
  have hl : lv_has ls 3 [(0, .ref (gA G 44)), (1, .int p_)] := hl
  refine lv_iload_n hx hb d_MO_wipe_0 rfl (lv_at hl 1 rfl) ?_
  refine lv_iconst (v := 0) hx hb d_MO_wipe_1 (by decide) ?_
  refine lv_iconst (v := 3) hx hb d_MO_wipe_2 (by decide) ?_
  refine r_i hC hS (r_runS (np := 3) (As := [.int p_, .int 0, .int 3]) (rest := []) hx hb hml hC hP hS (m_MO_in l G S p_ 0 3) l_MO_50 st_MO_in in_MO c_MO_in_in (by decide +kernel) ⟨by simp only [rmF]; omega, by simp only [rmF]; omega⟩ rfl hl.1 (Nat.le_of_ble_eq_true rfl) d_MO_wipe_3 ⟨Nat.le_refl _, Nat.le_refl _⟩) (fun r_3 S_3 H locs hw hP hS => ?_)
  obtain ⟨rfl, hSe⟩ := hw
  rw [hSe] at hP
  refine lv_if_ne (tgt := 11) hx hb d_MO_wipe_6 (by decide) (fun c_6 => ?_) (fun c_6 => ?_)
  · have c_6 := b2i_t c_6
    obtain ⟨p, hp3, rfl⟩ := inB_nI (b := 3) (by omega) c_6
    have hnp := hnn p (by omega)
    refine lv_aload_n hx hb d_MO_wipe_11 rfl (lv_at hl 0 rfl) ?_
    refine r_get hx hb hC hP i_MO (44) (by decide) rfl rfl 2 (by decide) l_MO_16 rfl d_MO_wipe_12 ?_
    refine lv_iload_n hx hb d_MO_wipe_15 rfl (lv_at hl 1 rfl) ?_
    refine r_ild hx hb hC hP (47) (by decide) rfl p rfl (by omega) (by decide) d_MO_wipe_16 ?_
    rw [show S 47 p = nI (nn p) from hnp.2]
    refine lv_istore_n (lv' := [(2, .int (nI (nn p))), (0, .ref (gA G 44)), (1, .int (nI p))]) hx hb d_MO_wipe_17 rfl hl (by decide) rfl (fun ls hl => ?_)
    refine lv_aload_n hx hb d_MO_wipe_18 rfl (lv_at hl 1 rfl) ?_
    refine r_get hx hb hC hP i_MO (44) (by decide) rfl rfl 2 (by decide) l_MO_16 rfl d_MO_wipe_19 ?_
    refine lv_iload_n hx hb d_MO_wipe_22 rfl (lv_at hl 2 rfl) ?_
    refine lv_iconst (v := 0) hx hb d_MO_wipe_23 (by decide) ?_
    refine r_ist hx hb hC hP hS (47) (by decide) (fun _ => rfl) p rfl (by omega) (by decide) d_MO_wipe_24 (fun H locs hP hS => ?_)
    refine lv_iload_n hx hb d_MO_wipe_25 rfl (lv_at hl 0 rfl) ?_
    exact e_i hx hb hr hlk hC hP hS d_MO_wipe_26 (Or.inr ⟨p, by omega, rfl, rfl, rfl⟩)
  · have c_6 := b2i_f c_6
    refine lv_iconst (v := (-1)) hx hb d_MO_wipe_9 (by decide) ?_
    exact e_i hx hb hr hlk hC hP hS d_MO_wipe_10 (Or.inl ⟨by assumption, rfl, rfl⟩)

def moEv (S : SS) (n : Nat) (i : Int32) : Int32 := if inB i 0 31 = true ∧ i < nI n then S 56 i.toNatClampNeg else -1
set_option maxHeartbeats 4000000 in
set_option maxRecDepth 100000 in
theorem m_MO_event (l : Launch) (G : WG) (S : SS) (n : Nat) (hn : n < 2 ^ 31) (hs : S 44 24 = nI n) (i : Int32) : Ci l y_MO_event b_MO_event 2 (some (.int)) 1 G [.ref (gA G 44), .int i] S (fun r S1 => r = moEv S n i ∧ S1 = S) := by
  refine mk l (by decide +kernel) (Nat.le_of_ble_eq_true rfl) ?_
  intro pp_ ee_ ss_ mm_ be_ me_ co_ ls hx hb hr hlk hml hC hP hS hl
  have hl : lv_has ls 2 [(0, .ref (gA G 44)), (1, .int i)] := hl
  refine lv_iload_n hx hb d_MO_event_0 rfl (lv_at hl 1 rfl) ?_
  refine lv_iconst (v := 0) hx hb d_MO_event_1 (by decide) ?_
  refine lv_bipush (v := 31) hx hb d_MO_event_2 (by decide) ?_
  refine r_i hC hS (r_runS (np := 3) (As := [.int i, .int 0, .int 31]) (rest := []) hx hb hml hC hP hS (m_MO_in l G S i 0 31) l_MO_50 st_MO_in in_MO c_MO_in_in (by decide +kernel) ⟨by simp only [rmF]; omega, by simp only [rmF]; omega⟩ rfl hl.1 (Nat.le_of_ble_eq_true rfl) d_MO_event_4 ⟨Nat.le_refl _, Nat.le_refl _⟩) (fun r_4 S_4 H locs hw hP hS => ?_)
  obtain ⟨rfl, hSe⟩ := hw
  rw [hSe] at hP
  refine lv_if_eq (tgt := 27) hx hb d_MO_event_7 (by decide) (fun c_7 => ?_) (fun c_7 => ?_)
  · have c_7 := b2i_f c_7
    refine lv_iconst (v := (-1)) hx hb d_MO_event_27 (by decide) ?_
    exact e_i hx hb hr hlk hC hP hS d_MO_event_28 ⟨by rw [moEv, if_neg (by intro h; first | (exact absurd h.2 (Int32.not_lt.mpr c_15)) | (have h1 := h.1; rw [c_7] at h1; exact absurd h1 (by decide)))], rfl⟩
  · have c_7 := b2i_t c_7
    obtain ⟨j, hj31, hj⟩ := inB_nI (b := 31) (by omega) c_7
    refine lv_iload_n hx hb d_MO_event_10 rfl (lv_at hl 1 rfl) ?_
    refine lv_aload_n hx hb d_MO_event_11 rfl (lv_at hl 0 rfl) ?_
    refine r_get hx hb hC hP i_MO (44) (by decide) rfl rfl 24 (by decide) l_MO_143 rfl d_MO_event_12 ?_
    rw [show S 44 24 = nI n from hs]
    refine lv_icmp_ge (tgt := 27) hx hb d_MO_event_15 (by decide) (fun c_15 => ?_) (fun c_15 => ?_)
    · refine lv_iconst (v := (-1)) hx hb d_MO_event_27 (by decide) ?_
      exact e_i hx hb hr hlk hC hP hS d_MO_event_28 ⟨by rw [moEv, if_neg (by intro h; first | (exact absurd h.2 (Int32.not_lt.mpr c_15)) | (have h1 := h.1; rw [c_7] at h1; exact absurd h1 (by decide)))], rfl⟩
    · refine lv_aload_n hx hb d_MO_event_18 rfl (lv_at hl 0 rfl) ?_
      refine r_get hx hb hC hP i_MO (44) (by decide) rfl rfl 23 (by decide) l_MO_47 rfl d_MO_event_19 ?_
      refine lv_iload_n hx hb d_MO_event_22 rfl (lv_at hl 1 rfl) ?_
      refine r_ild hx hb hC hP (56) (by decide) rfl j hj (by omega) (by decide) d_MO_event_23 ?_
      refine lv_goto (tgt := 28) hx hb d_MO_event_24 (by decide) ?_
      exact e_i hx hb hr hlk hC hP hS d_MO_event_28 ⟨by rw [moEv, if_pos ⟨c_7, Int32.not_le.mp c_15⟩, hj, nI_clamp (by omega)], rfl⟩

/-- the k-th cause, reference's numbers: from 1, 0 is none -/
def mz (cs : Nat → Nat) (r : Nat) : Nat → Nat
  | 0 => r
  | k + 1 => if 0 < mz cs r k then cs (mz cs r k) else 0
theorem mz_0 {cs : Nat → Nat} {r k : Nat} (h : mz cs r k = 0) : ∀ m, k ≤ m → mz cs r m = 0 := by
  intro m hm
  induction m with
  | zero => rw [show k = 0 by omega] at h; exact h
  | succ m ih =>
    rcases (show k = m + 1 ∨ k ≤ m by omega) with h1 | h1
    · rw [← h1]; exact h
    · show (if 0 < mz cs r m then cs (mz cs r m) else 0) = 0
      rw [if_neg (by rw [ih h1]; omega)]
theorem mz_le {cs : Nat → Nat} {r n : Nat} (hr : r ≤ n) (hc : ∀ j, 0 < j → j ≤ n → cs j < j) : ∀ k, 0 < mz cs r k → mz cs r k + k ≤ n := by
  intro k
  induction k with
  | zero => intro _; show r + 0 ≤ n; omega
  | succ k ih =>
    intro h
    have h2 : mz cs r (k + 1) = (if 0 < mz cs r k then cs (mz cs r k) else 0) := rfl
    by_cases h0 : 0 < mz cs r k
    · have h1 := ih h0
      rw [if_pos h0] at h2
      have := hc (mz cs r k) h0 (by omega)
      omega
    · rw [if_neg h0] at h2
      omega
def moFa (S : SS) (cs : Nat → Nat) (r : Nat) (k : Int32) : Int32 := if k < 0 then -1 else if 0 < mz cs r k.toNatClampNeg then S 54 (mz cs r k.toNatClampNeg) else -1
set_option maxHeartbeats 4000000 in
set_option maxRecDepth 100000 in
theorem m_MO_fault_loop (l : Launch) (G : WG) (S : SS) (n r : Nat) (cs : Nat → Nat) (hn : n ≤ 600) (hrn : r ≤ n) (hs : S 44 22 = nI r) (hc : ∀ j, 0 < j → j ≤ n → cs j < j) (hcs : ∀ j, 0 < j → j ≤ n → S 55 j = nI (cs j)) (kk : Nat) (hkk : kk < 2 ^ 31) {pp_ : Program} {ee_ : Env} {ss_ : State} {mm_ : MethodId} {be_ : List Frame} {me_ : Method} {co_ : Code} (hx : pp_.tables.exec = Jvm.exec) (hb : co_.code = b_MO_fault) (hr : me_.sig.returnType = (some (.int))) (hlk : me_.locks = false) (hml : co_.maxLocals = 4) (hC : CC G "EndingsLabModel" ss_ mm_ ([.ref (gA G 44), .int (nI kk)] : List Value).toArray (AA G)) :
    ∀ (f : Nat) (j : Nat), j ≤ kk → j ≤ 600 → mz cs r j ≤ n → 600 < j + f →  ∀ (H : Heap) (locs : List Loc) (ls : Array Slot), va_P (gD G) clsL (wl (gA G) 57 (fS G S)) H → va_S (AA G) ss_.heap H locs → lv_has ls 4 [(0, .ref (gA G 44)), (1, .int (nI kk)), (2, .int (nI (mz cs r j))), (3, .int (nI j))] → W pp_ l ee_ (rmF 0) ss_ mm_ ([.ref (gA G 44), .int (nI kk)] : List Value).toArray be_ me_ co_ H locs 0 0 (MQ be_ (va_Qi (fun x S1 => x = moFa S cs r (nI kk) ∧ S1 = S) (WD G) (AA G)) ([.ref (gA G 44), .int (nI kk)] : List Value).toArray ss_ 0 0 (AA G)) (F0 mm_ 15 ls []) := by
  intro f
  induction f with
  | zero =>
    intro j hj hj6 hm9 hf H locs ls hP hS hl
    exact absurd hf (by omega)
  | succ f ih =>
    intro j hj hj6 hm9 hf H locs ls hP hS hl
    refine lv_iload_n hx hb d_MO_fault_15 rfl (lv_at hl 3 rfl) ?_
    refine lv_iload_n hx hb d_MO_fault_16 rfl (lv_at hl 1 rfl) ?_
    refine lv_icmp_ge (tgt := 37) hx hb d_MO_fault_17 (by decide) (fun c_17 => ?_) (fun c_17 => ?_)
    · have c_17 : kk ≤ j := (q_le (a := kk) (b := j) rfl rfl (by omega) (by omega)).mp c_17
      refine lv_iload_n hx hb d_MO_fault_37 rfl (lv_at hl 2 rfl) ?_
      refine lv_if_le (tgt := 50) hx hb d_MO_fault_38 (by decide) (fun c_38 => ?_) (fun c_38 => ?_)
      · have c_38 : mz cs r j ≤ 0 := (q_le (a := mz cs r j) (b := 0) rfl rfl (by omega) (by omega)).mp c_38
        refine lv_iconst (v := (-1)) hx hb d_MO_fault_50 (by decide) ?_
        exact e_i hx hb hr hlk hC hP hS d_MO_fault_51 ⟨by rw [moFa, if_neg (nI_pos hkk), nI_clamp hkk, if_neg (by first | (rw [← show j = kk by omega]; omega) | (rw [mz_0 (k := j) (by omega) kk hj]; omega))], rfl⟩
      · have c_38 : ¬ mz cs r j ≤ 0 := fun h => c_38 ((q_le (a := mz cs r j) (b := 0) rfl rfl (by omega) (by omega)).mpr h)
        refine lv_aload_n hx hb d_MO_fault_41 rfl (lv_at hl 0 rfl) ?_
        refine r_get hx hb hC hP i_MO (44) (by decide) rfl rfl 16 (by decide) l_MO_41 rfl d_MO_fault_42 ?_
        refine lv_iload_n hx hb d_MO_fault_45 rfl (lv_at hl 2 rfl) ?_
        refine r_ild hx hb hC hP (54) (by decide) rfl (mz cs r j) rfl (by omega) (by decide) d_MO_fault_46 ?_
        refine lv_goto (tgt := 51) hx hb d_MO_fault_47 (by decide) ?_
        exact e_i hx hb hr hlk hC hP hS d_MO_fault_51 ⟨by rw [moFa, if_neg (nI_pos hkk), nI_clamp hkk, ← show j = kk by omega, if_pos (by omega)], rfl⟩
    · have c_17 : ¬ kk ≤ j := fun h => c_17 ((q_le (a := kk) (b := j) rfl rfl (by omega) (by omega)).mpr h)
      refine lv_iload_n hx hb d_MO_fault_20 rfl (lv_at hl 2 rfl) ?_
      refine lv_if_le (tgt := 37) hx hb d_MO_fault_21 (by decide) (fun c_21 => ?_) (fun c_21 => ?_)
      · have c_21 : mz cs r j ≤ 0 := (q_le (a := mz cs r j) (b := 0) rfl rfl (by omega) (by omega)).mp c_21
        refine lv_iload_n hx hb d_MO_fault_37 rfl (lv_at hl 2 rfl) ?_
        refine lv_if_le (tgt := 50) hx hb d_MO_fault_38 (by decide) (fun c_38 => ?_) (fun c_38 => ?_)
        · have c_38 : mz cs r j ≤ 0 := (q_le (a := mz cs r j) (b := 0) rfl rfl (by omega) (by omega)).mp c_38
          refine lv_iconst (v := (-1)) hx hb d_MO_fault_50 (by decide) ?_
          exact e_i hx hb hr hlk hC hP hS d_MO_fault_51 ⟨by rw [moFa, if_neg (nI_pos hkk), nI_clamp hkk, if_neg (by first | (rw [← show j = kk by omega]; omega) | (rw [mz_0 (k := j) (by omega) kk hj]; omega))], rfl⟩
        · have c_38 : ¬ mz cs r j ≤ 0 := fun h => c_38 ((q_le (a := mz cs r j) (b := 0) rfl rfl (by omega) (by omega)).mpr h)
          refine lv_aload_n hx hb d_MO_fault_41 rfl (lv_at hl 0 rfl) ?_
          refine r_get hx hb hC hP i_MO (44) (by decide) rfl rfl 16 (by decide) l_MO_41 rfl d_MO_fault_42 ?_
          refine lv_iload_n hx hb d_MO_fault_45 rfl (lv_at hl 2 rfl) ?_
          refine r_ild hx hb hC hP (54) (by decide) rfl (mz cs r j) rfl (by omega) (by decide) d_MO_fault_46 ?_
          refine lv_goto (tgt := 51) hx hb d_MO_fault_47 (by decide) ?_
          exact e_i hx hb hr hlk hC hP hS d_MO_fault_51 ⟨by rw [moFa, if_neg (nI_pos hkk), nI_clamp hkk, ← show j = kk by omega, if_pos (by omega)], rfl⟩
      · have c_21 : ¬ mz cs r j ≤ 0 := fun h => c_21 ((q_le (a := mz cs r j) (b := 0) rfl rfl (by omega) (by omega)).mpr h)
        have hm := mz_le hrn hc j (by omega)
        have hz : mz cs r (j + 1) = cs (mz cs r j) := if_pos (by omega)
        have hz2 := hc (mz cs r j) (by omega) (by omega)
        refine lv_aload_n hx hb d_MO_fault_24 rfl (lv_at hl 0 rfl) ?_
        refine r_get hx hb hC hP i_MO (44) (by decide) rfl rfl 17 (by decide) l_MO_44 rfl d_MO_fault_25 ?_
        refine lv_iload_n hx hb d_MO_fault_28 rfl (lv_at hl 2 rfl) ?_
        refine r_ild hx hb hC hP (55) (by decide) rfl (mz cs r j) rfl (by omega) (by decide) d_MO_fault_29 ?_
        rw [show S 55 (mz cs r j) = nI (mz cs r (j + 1)) from (by rw [hz]; exact hcs _ (by omega) (by omega))]
        refine lv_istore_n (lv' := [(2, .int (nI (mz cs r (j + 1)))), (0, .ref (gA G 44)), (1, .int (nI kk)), (3, .int (nI j))]) hx hb d_MO_fault_30 rfl hl (by decide) rfl (fun ls hl => ?_)
        refine lv_iinc (v := nI (j + 1)) (lv' := [(3, .int (nI (j + 1))), (2, .int (nI (mz cs r (j + 1)))), (0, .ref (gA G 44)), (1, .int (nI kk))]) hx hb d_MO_fault_31 hl (k := 3) rfl (nI_1 _) (by decide) rfl (fun ls hl => ?_)
        refine lv_goto (tgt := 15) hx hb d_MO_fault_34 (by decide) ?_
        exact ih (j + 1) (by omega) (by omega) (by omega) (by omega) _ _ _ hP hS (lv_sub hl [2, 3, 1, 0] rfl)

set_option maxHeartbeats 4000000 in
set_option maxRecDepth 100000 in
theorem m_MO_fault (l : Launch) (G : WG) (S : SS) (n r : Nat) (cs : Nat → Nat) (hn : n ≤ 600) (hrn : r ≤ n) (hs : S 44 22 = nI r) (hc : ∀ j, 0 < j → j ≤ n → cs j < j) (hcs : ∀ j, 0 < j → j ≤ n → S 55 j = nI (cs j)) (kk : Nat) (hkk : kk < 2 ^ 31) : Ci l y_MO_fault b_MO_fault 4 (some (.int)) 0 G [.ref (gA G 44), .int (nI kk)] S (fun x S1 => x = moFa S cs r (nI kk) ∧ S1 = S) := by
  refine mk l (by decide +kernel) (Nat.le_of_ble_eq_true rfl) ?_
  intro pp_ ee_ ss_ mm_ be_ me_ co_ ls hx hb hr hlk hml hC hP hS hl
  have hl : lv_has ls 4 [(0, .ref (gA G 44)), (1, .int (nI kk))] := hl
  refine lv_iload_n hx hb d_MO_fault_0 rfl (lv_at hl 1 rfl) ?_
  refine lv_if_ge (tgt := 8) hx hb d_MO_fault_1 (by decide) (fun c_1 => ?_) (fun c_1 => absurd (Nat.zero_le kk) (fun h => c_1 ((q_le (a := 0) (b := kk) rfl rfl (by omega) (by omega)).mpr h)))
  refine lv_aload_n hx hb d_MO_fault_8 rfl (lv_at hl 0 rfl) ?_
  refine r_get hx hb hC hP i_MO (44) (by decide) rfl rfl 22 (by decide) l_MO_164 rfl d_MO_fault_9 ?_
  rw [show S 44 22 = nI r from hs]
  refine lv_istore_n (lv' := [(2, .int (nI r)), (0, .ref (gA G 44)), (1, .int (nI kk))]) hx hb d_MO_fault_12 rfl hl (by decide) rfl (fun ls hl => ?_)
  refine lv_iconst (v := 0) hx hb d_MO_fault_13 (by decide) ?_
  refine lv_istore_n (lv' := [(3, .int 0), (2, .int (nI r)), (0, .ref (gA G 44)), (1, .int (nI kk))]) hx hb d_MO_fault_14 rfl hl (by decide) rfl (fun ls hl => ?_)
  exact m_MO_fault_loop l G S n r cs hn hrn hs hc hcs kk hkk hx hb hr hlk hml hC 601 0 (Nat.zero_le _) (by omega) hrn (by omega) _ _ _ hP hS (lv_sub hl [2, 3, 1, 0] rfl)

set_option maxHeartbeats 4000000 in
set_option maxRecDepth 100000 in
theorem m_MO_faultN (l : Launch) (G : WG) (S : SS) (k : Int32) (hk : k < 0) : Ci l y_MO_fault b_MO_fault 4 (some (.int)) 0 G [.ref (gA G 44), .int k] S (fun x S1 => x = -1 ∧ S1 = S) := by
  refine mk l (by decide +kernel) (Nat.le_of_ble_eq_true rfl) ?_
  intro pp_ ee_ ss_ mm_ be_ me_ co_ ls hx hb hr hlk hml hC hP hS hl
  have hl : lv_has ls 4 [(0, .ref (gA G 44)), (1, .int k)] := hl
  refine lv_iload_n hx hb d_MO_fault_0 rfl (lv_at hl 1 rfl) ?_
  refine lv_if_ge (tgt := 8) hx hb d_MO_fault_1 (by decide) (fun c_1 => absurd hk (Int32.not_lt.mpr c_1)) (fun c_1 => ?_)
  refine lv_iconst (v := 0) hx hb d_MO_fault_4 (by decide) ?_
  refine lv_goto (tgt := 12) hx hb d_MO_fault_5 (by decide) ?_
  refine lv_istore_n (lv' := [(2, .int 0), (0, .ref (gA G 44)), (1, .int k)]) hx hb d_MO_fault_12 rfl hl (by decide) rfl (fun ls hl => ?_)
  refine lv_iconst (v := 0) hx hb d_MO_fault_13 (by decide) ?_
  refine lv_istore_n (lv' := [(3, .int 0), (2, .int 0), (0, .ref (gA G 44)), (1, .int k)]) hx hb d_MO_fault_14 rfl hl (by decide) rfl (fun ls hl => ?_)
  refine lv_iload_n hx hb d_MO_fault_15 rfl (lv_at hl 0 rfl) ?_
  refine lv_iload_n hx hb d_MO_fault_16 rfl (lv_at hl 3 rfl) ?_
  refine lv_icmp_ge (tgt := 37) hx hb d_MO_fault_17 (by decide) (fun c_17 => ?_) (fun c_17 => absurd (Int32.le_of_lt hk) c_17)
  refine lv_iload_n hx hb d_MO_fault_37 rfl (lv_at hl 1 rfl) ?_
  refine lv_if_le (tgt := 50) hx hb d_MO_fault_38 (by decide) (fun _ => ?_) (fun h => absurd h (by decide))
  refine lv_iconst (v := (-1)) hx hb d_MO_fault_50 (by decide) ?_
  exact e_i hx hb hr hlk hC hP hS d_MO_fault_51 ⟨rfl, rfl⟩

