/-! leaves of the reference: written by wip/gen/p30.py -/
def inB (v a b : Int32) : Bool := decide (a ≤ v) && decide (v ≤ b)
set_option maxHeartbeats 4000000 in
set_option maxRecDepth 100000 in
theorem m_MO_in (l : Launch) (G : WG) (S : SS) (v a b : Int32) : Ci l y_MO_in b_MO_in 3 (some (.boolean)) 0 G [.int v, .int a, .int b] S (fun r S1 => r = b2i (inB v a b) ∧ S1 = S) := by
  refine mk l (by decide +kernel) (Nat.le_of_ble_eq_true rfl) ?_
  intro pp_ ee_ ss_ mm_ be_ me_ co_ ls hx hb hr hlk hml hC hP hS hl
  have hl : lv_has ls 3 [(0, .int v), (1, .int a), (2, .int b)] := hl
  refine lv_iload_n hx hb d_MO_in_0 rfl (lv_at hl 0 rfl) ?_
  refine lv_iload_n hx hb d_MO_in_1 rfl (lv_at hl 1 rfl) ?_
  refine lv_icmp_lt (tgt := 14) hx hb d_MO_in_2 (by decide) (fun c_2 => ?_) (fun c_2 => ?_)
  · refine lv_iconst (v := 0) hx hb d_MO_in_14 (by decide) ?_
    exact e_z hx hb hr hlk hC hP hS d_MO_in_15 (by decide) ⟨by first | (rw [inB, decide_eq_false (Int32.not_le.mpr (by assumption))]; rfl) | (rw [inB, decide_eq_true (Int32.not_lt.mp (by assumption)), decide_eq_false (Int32.not_le.mpr (by assumption))]; rfl) | (rw [inB, decide_eq_true (Int32.not_lt.mp (by assumption)), decide_eq_true (Int32.not_lt.mp (by assumption))]; rfl), rfl⟩
  · refine lv_iload_n hx hb d_MO_in_5 rfl (lv_at hl 0 rfl) ?_
    refine lv_iload_n hx hb d_MO_in_6 rfl (lv_at hl 2 rfl) ?_
    refine lv_icmp_gt (tgt := 14) hx hb d_MO_in_7 (by decide) (fun c_7 => ?_) (fun c_7 => ?_)
    · refine lv_iconst (v := 0) hx hb d_MO_in_14 (by decide) ?_
      exact e_z hx hb hr hlk hC hP hS d_MO_in_15 (by decide) ⟨by first | (rw [inB, decide_eq_false (Int32.not_le.mpr (by assumption))]; rfl) | (rw [inB, decide_eq_true (Int32.not_lt.mp (by assumption)), decide_eq_false (Int32.not_le.mpr (by assumption))]; rfl) | (rw [inB, decide_eq_true (Int32.not_lt.mp (by assumption)), decide_eq_true (Int32.not_lt.mp (by assumption))]; rfl), rfl⟩
    · refine lv_iconst (v := 1) hx hb d_MO_in_10 (by decide) ?_
      refine lv_goto (tgt := 15) hx hb d_MO_in_11 (by decide) ?_
      exact e_z hx hb hr hlk hC hP hS d_MO_in_15 (by decide) ⟨by first | (rw [inB, decide_eq_false (Int32.not_le.mpr (by assumption))]; rfl) | (rw [inB, decide_eq_true (Int32.not_lt.mp (by assumption)), decide_eq_false (Int32.not_le.mpr (by assumption))]; rfl) | (rw [inB, decide_eq_true (Int32.not_lt.mp (by assumption)), decide_eq_true (Int32.not_lt.mp (by assumption))]; rfl), rfl⟩

set_option maxHeartbeats 4000000 in
set_option maxRecDepth 100000 in
theorem m_MO_is (l : Launch) (G : WG) (S : SS) (a b : Int32) : Ci l y_MO_is b_MO_is 2 (some (.boolean)) 0 G [.int a, .int b] S (fun r S1 => r = b2i (isK a b) ∧ S1 = S) := by
  refine mk l (by decide +kernel) (Nat.le_of_ble_eq_true rfl) ?_
  intro pp_ ee_ ss_ mm_ be_ me_ co_ ls hx hb hr hlk hml hC hP hS hl
  have hl : lv_has ls 2 [(0, .int a), (1, .int b)] := hl
  refine lv_iload_n hx hb d_MO_is_0 rfl (lv_at hl 1 rfl) ?_
  refine lv_if_eq (tgt := 30) hx hb d_MO_is_1 (by decide) (fun c_1 => ?_) (fun c_1 => ?_)
  · refine lv_iconst (v := 1) hx hb d_MO_is_30 (by decide) ?_
    refine lv_goto (tgt := 35) hx hb d_MO_is_31 (by decide) ?_
    exact e_z hx hb hr hlk hC hP hS d_MO_is_35 (by decide) ⟨by simp_all [isK, b2i], rfl⟩
  · refine lv_iload_n hx hb d_MO_is_4 rfl (lv_at hl 0 rfl) ?_
    refine lv_iload_n hx hb d_MO_is_5 rfl (lv_at hl 1 rfl) ?_
    refine lv_icmp_eq (tgt := 30) hx hb d_MO_is_6 (by decide) (fun c_6 => ?_) (fun c_6 => ?_)
    · refine lv_iconst (v := 1) hx hb d_MO_is_30 (by decide) ?_
      refine lv_goto (tgt := 35) hx hb d_MO_is_31 (by decide) ?_
      exact e_z hx hb hr hlk hC hP hS d_MO_is_35 (by decide) ⟨by simp_all [isK, b2i], rfl⟩
    · refine lv_iload_n hx hb d_MO_is_9 rfl (lv_at hl 1 rfl) ?_
      refine lv_iconst (v := 1) hx hb d_MO_is_10 (by decide) ?_
      refine lv_icmp_ne (tgt := 19) hx hb d_MO_is_11 (by decide) (fun c_11 => ?_) (fun c_11 => ?_)
      · refine lv_iload_n hx hb d_MO_is_19 rfl (lv_at hl 1 rfl) ?_
        refine lv_iconst (v := 2) hx hb d_MO_is_20 (by decide) ?_
        refine lv_icmp_ne (tgt := 34) hx hb d_MO_is_21 (by decide) (fun c_21 => ?_) (fun c_21 => ?_)
        · refine lv_iconst (v := 0) hx hb d_MO_is_34 (by decide) ?_
          exact e_z hx hb hr hlk hC hP hS d_MO_is_35 (by decide) ⟨by simp_all [isK, b2i], rfl⟩
        · refine lv_iload_n hx hb d_MO_is_24 rfl (lv_at hl 0 rfl) ?_
          refine lv_bipush (v := 6) hx hb d_MO_is_25 (by decide) ?_
          refine lv_icmp_ne (tgt := 34) hx hb d_MO_is_27 (by decide) (fun c_27 => ?_) (fun c_27 => ?_)
          · refine lv_iconst (v := 0) hx hb d_MO_is_34 (by decide) ?_
            exact e_z hx hb hr hlk hC hP hS d_MO_is_35 (by decide) ⟨by simp_all [isK, b2i], rfl⟩
          · refine lv_iconst (v := 1) hx hb d_MO_is_30 (by decide) ?_
            refine lv_goto (tgt := 35) hx hb d_MO_is_31 (by decide) ?_
            exact e_z hx hb hr hlk hC hP hS d_MO_is_35 (by decide) ⟨by simp_all [isK, b2i], rfl⟩
      · refine lv_iload_n hx hb d_MO_is_14 rfl (lv_at hl 0 rfl) ?_
        refine lv_iconst (v := 3) hx hb d_MO_is_15 (by decide) ?_
        refine lv_icmp_eq (tgt := 30) hx hb d_MO_is_16 (by decide) (fun c_16 => ?_) (fun c_16 => ?_)
        · refine lv_iconst (v := 1) hx hb d_MO_is_30 (by decide) ?_
          refine lv_goto (tgt := 35) hx hb d_MO_is_31 (by decide) ?_
          exact e_z hx hb hr hlk hC hP hS d_MO_is_35 (by decide) ⟨by simp_all [isK, b2i], rfl⟩
        · refine lv_iload_n hx hb d_MO_is_19 rfl (lv_at hl 1 rfl) ?_
          refine lv_iconst (v := 2) hx hb d_MO_is_20 (by decide) ?_
          refine lv_icmp_ne (tgt := 34) hx hb d_MO_is_21 (by decide) (fun c_21 => ?_) (fun c_21 => ?_)
          · refine lv_iconst (v := 0) hx hb d_MO_is_34 (by decide) ?_
            exact e_z hx hb hr hlk hC hP hS d_MO_is_35 (by decide) ⟨by simp_all [isK, b2i], rfl⟩
          · refine lv_iload_n hx hb d_MO_is_24 rfl (lv_at hl 0 rfl) ?_
            refine lv_bipush (v := 6) hx hb d_MO_is_25 (by decide) ?_
            refine lv_icmp_ne (tgt := 34) hx hb d_MO_is_27 (by decide) (fun c_27 => ?_) (fun c_27 => ?_)
            · refine lv_iconst (v := 0) hx hb d_MO_is_34 (by decide) ?_
              exact e_z hx hb hr hlk hC hP hS d_MO_is_35 (by decide) ⟨by simp_all [isK, b2i], rfl⟩
            · refine lv_iconst (v := 1) hx hb d_MO_is_30 (by decide) ?_
              refine lv_goto (tgt := 35) hx hb d_MO_is_31 (by decide) ?_
              exact e_z hx hb hr hlk hC hP hS d_MO_is_35 (by decide) ⟨by simp_all [isK, b2i], rfl⟩

def opB (o : Int32) : Bool := decide (o = 3) || decide (o = 9) || decide (o = 10) || decide (o = 14) || decide (o = 16) || decide (o = 17)
set_option maxHeartbeats 4000000 in
set_option maxRecDepth 100000 in
theorem m_MO_opens (l : Launch) (G : WG) (S : SS) (o : Int32) : Ci l y_MO_opens b_MO_opens 1 (some (.boolean)) 0 G [.int o] S (fun r S1 => r = b2i (opB o) ∧ S1 = S) := by
  refine mk l (by decide +kernel) (Nat.le_of_ble_eq_true rfl) ?_
  intro pp_ ee_ ss_ mm_ be_ me_ co_ ls hx hb hr hlk hml hC hP hS hl
  have hl : lv_has ls 1 [(0, .int o)] := hl
  refine lv_iload_n hx hb d_MO_opens_0 rfl (lv_at hl 0 rfl) ?_
  refine lv_iconst (v := 3) hx hb d_MO_opens_1 (by decide) ?_
  refine lv_icmp_eq (tgt := 35) hx hb d_MO_opens_2 (by decide) (fun c_2 => ?_) (fun c_2 => ?_)
  · refine lv_iconst (v := 1) hx hb d_MO_opens_35 (by decide) ?_
    refine lv_goto (tgt := 40) hx hb d_MO_opens_36 (by decide) ?_
    exact e_z hx hb hr hlk hC hP hS d_MO_opens_40 (by decide) ⟨by simp_all [opB, b2i], rfl⟩
  · refine lv_iload_n hx hb d_MO_opens_5 rfl (lv_at hl 0 rfl) ?_
    refine lv_bipush (v := 9) hx hb d_MO_opens_6 (by decide) ?_
    refine lv_icmp_eq (tgt := 35) hx hb d_MO_opens_8 (by decide) (fun c_8 => ?_) (fun c_8 => ?_)
    · refine lv_iconst (v := 1) hx hb d_MO_opens_35 (by decide) ?_
      refine lv_goto (tgt := 40) hx hb d_MO_opens_36 (by decide) ?_
      exact e_z hx hb hr hlk hC hP hS d_MO_opens_40 (by decide) ⟨by simp_all [opB, b2i], rfl⟩
    · refine lv_iload_n hx hb d_MO_opens_11 rfl (lv_at hl 0 rfl) ?_
      refine lv_bipush (v := 10) hx hb d_MO_opens_12 (by decide) ?_
      refine lv_icmp_eq (tgt := 35) hx hb d_MO_opens_14 (by decide) (fun c_14 => ?_) (fun c_14 => ?_)
      · refine lv_iconst (v := 1) hx hb d_MO_opens_35 (by decide) ?_
        refine lv_goto (tgt := 40) hx hb d_MO_opens_36 (by decide) ?_
        exact e_z hx hb hr hlk hC hP hS d_MO_opens_40 (by decide) ⟨by simp_all [opB, b2i], rfl⟩
      · refine lv_iload_n hx hb d_MO_opens_17 rfl (lv_at hl 0 rfl) ?_
        refine lv_bipush (v := 14) hx hb d_MO_opens_18 (by decide) ?_
        refine lv_icmp_eq (tgt := 35) hx hb d_MO_opens_20 (by decide) (fun c_20 => ?_) (fun c_20 => ?_)
        · refine lv_iconst (v := 1) hx hb d_MO_opens_35 (by decide) ?_
          refine lv_goto (tgt := 40) hx hb d_MO_opens_36 (by decide) ?_
          exact e_z hx hb hr hlk hC hP hS d_MO_opens_40 (by decide) ⟨by simp_all [opB, b2i], rfl⟩
        · refine lv_iload_n hx hb d_MO_opens_23 rfl (lv_at hl 0 rfl) ?_
          refine lv_bipush (v := 16) hx hb d_MO_opens_24 (by decide) ?_
          refine lv_icmp_eq (tgt := 35) hx hb d_MO_opens_26 (by decide) (fun c_26 => ?_) (fun c_26 => ?_)
          · refine lv_iconst (v := 1) hx hb d_MO_opens_35 (by decide) ?_
            refine lv_goto (tgt := 40) hx hb d_MO_opens_36 (by decide) ?_
            exact e_z hx hb hr hlk hC hP hS d_MO_opens_40 (by decide) ⟨by simp_all [opB, b2i], rfl⟩
          · refine lv_iload_n hx hb d_MO_opens_29 rfl (lv_at hl 0 rfl) ?_
            refine lv_bipush (v := 17) hx hb d_MO_opens_30 (by decide) ?_
            refine lv_icmp_ne (tgt := 39) hx hb d_MO_opens_32 (by decide) (fun c_32 => ?_) (fun c_32 => ?_)
            · refine lv_iconst (v := 0) hx hb d_MO_opens_39 (by decide) ?_
              exact e_z hx hb hr hlk hC hP hS d_MO_opens_40 (by decide) ⟨by simp_all [opB, b2i], rfl⟩
            · refine lv_iconst (v := 1) hx hb d_MO_opens_35 (by decide) ?_
              refine lv_goto (tgt := 40) hx hb d_MO_opens_36 (by decide) ?_
              exact e_z hx hb hr hlk hC hP hS d_MO_opens_40 (by decide) ⟨by simp_all [opB, b2i], rfl⟩

def fitM (o a : Int32) : Bool := if o.toInt = 3 then inB a 0 5 else if o.toInt = 7 ∨ o.toInt = 8 ∨ o.toInt = 16 then inB a 0 6 else if o.toInt = 9 then inB a 0 6 && decide (¬ a = 3) else if o.toInt = 10 ∨ o.toInt = 11 ∨ o.toInt = 12 ∨ o.toInt = 15 then inB a 0 2 else if o.toInt = 13 then inB a 0 3 else inB o 0 18
set_option maxHeartbeats 4000000 in
set_option maxRecDepth 100000 in
theorem m_MO_fits (l : Launch) (G : WG) (S : SS) (o a : Int32) : Ci l y_MO_fits b_MO_fits 2 (some (.boolean)) 1 G [.int o, .int a] S (fun r S1 => r = b2i (fitM o a) ∧ S1 = S) := by
  refine mk l (by decide +kernel) (Nat.le_of_ble_eq_true rfl) ?_
  intro pp_ ee_ ss_ mm_ be_ me_ co_ ls hx hb hr hlk hml hC hP hS hl
  have hl : lv_has ls 2 [(0, .int o), (1, .int a)] := hl
  refine lv_iload_n hx hb d_MO_fits_0 rfl (lv_at hl 0 rfl) ?_
  by_cases hlo_1 : (o).toInt < 3 ∨ 16 < (o).toInt
  · refine lv_tableOut (tgt := 122) hx hb d_MO_fits_1 hlo_1 (by decide) ?_
    refine lv_iload_n hx hb d_MO_fits_122 rfl (lv_at hl 0 rfl) ?_
    refine lv_iconst (v := 0) hx hb d_MO_fits_123 (by decide) ?_
    refine lv_bipush (v := 18) hx hb d_MO_fits_124 (by decide) ?_
    refine r_i hC hS (r_runS (np := 3) (As := [.int o, .int 0, .int 18]) (rest := []) hx hb hml hC hP hS (m_MO_in l G S o 0 18) l_MO_50 st_MO_in in_MO c_MO_in_in (by decide +kernel) ⟨by simp only [rmF]; omega, by simp only [rmF]; omega⟩ rfl hl.1 (Nat.le_of_ble_eq_true rfl) d_MO_fits_126 ⟨Nat.le_refl _, Nat.le_refl _⟩) (fun r_126 S_126 H locs hw hP hS => ?_)
    obtain ⟨rfl, hSe⟩ := hw
    rw [hSe] at hP
    exact e_z hx hb hr hlk hC hP hS d_MO_fits_129 (b2i_nar _) ⟨by first | (simp only [fitM, hk_1]; rfl) | (rw [fitM, if_neg (by omega), if_neg (by omega), if_neg (by omega), if_neg (by omega), if_neg (by omega)]; done) | simp_all [fitM, b2i], rfl⟩
  · obtain ⟨h1_1, h2_1⟩ := not_or.mp hlo_1
    rcases (show (o).toInt = 3 ∨ (o).toInt = 4 ∨ (o).toInt = 5 ∨ (o).toInt = 6 ∨ (o).toInt = 7 ∨ (o).toInt = 8 ∨ (o).toInt = 9 ∨ (o).toInt = 10 ∨ (o).toInt = 11 ∨ (o).toInt = 12 ∨ (o).toInt = 13 ∨ (o).toInt = 14 ∨ (o).toInt = 15 ∨ (o).toInt = 16 by omega) with hk_1 | hk_1 | hk_1 | hk_1 | hk_1 | hk_1 | hk_1 | hk_1 | hk_1 | hk_1 | hk_1 | hk_1 | hk_1 | hk_1
    · refine lv_tableIn (off := 71) (tgt := 72) hx hb d_MO_fits_1 h1_1 h2_1 (by rw [hk_1]; rfl) (by decide) ?_
      refine lv_iload_n hx hb d_MO_fits_72 rfl (lv_at hl 1 rfl) ?_
      refine lv_iconst (v := 0) hx hb d_MO_fits_73 (by decide) ?_
      refine lv_iconst (v := 5) hx hb d_MO_fits_74 (by decide) ?_
      refine r_i hC hS (r_runS (np := 3) (As := [.int a, .int 0, .int 5]) (rest := []) hx hb hml hC hP hS (m_MO_in l G S a 0 5) l_MO_50 st_MO_in in_MO c_MO_in_in (by decide +kernel) ⟨by simp only [rmF]; omega, by simp only [rmF]; omega⟩ rfl hl.1 (Nat.le_of_ble_eq_true rfl) d_MO_fits_75 ⟨Nat.le_refl _, Nat.le_refl _⟩) (fun r_75 S_75 H locs hw hP hS => ?_)
      obtain ⟨rfl, hSe⟩ := hw
      rw [hSe] at hP
      exact e_z hx hb hr hlk hC hP hS d_MO_fits_78 (b2i_nar _) ⟨by first | (simp only [fitM, hk_1]; rfl) | (rw [fitM, if_neg (by omega), if_neg (by omega), if_neg (by omega), if_neg (by omega), if_neg (by omega)]; done) | simp_all [fitM, b2i], rfl⟩
    · refine lv_tableIn (off := 121) (tgt := 122) hx hb d_MO_fits_1 h1_1 h2_1 (by rw [hk_1]; rfl) (by decide) ?_
      refine lv_iload_n hx hb d_MO_fits_122 rfl (lv_at hl 0 rfl) ?_
      refine lv_iconst (v := 0) hx hb d_MO_fits_123 (by decide) ?_
      refine lv_bipush (v := 18) hx hb d_MO_fits_124 (by decide) ?_
      refine r_i hC hS (r_runS (np := 3) (As := [.int o, .int 0, .int 18]) (rest := []) hx hb hml hC hP hS (m_MO_in l G S o 0 18) l_MO_50 st_MO_in in_MO c_MO_in_in (by decide +kernel) ⟨by simp only [rmF]; omega, by simp only [rmF]; omega⟩ rfl hl.1 (Nat.le_of_ble_eq_true rfl) d_MO_fits_126 ⟨Nat.le_refl _, Nat.le_refl _⟩) (fun r_126 S_126 H locs hw hP hS => ?_)
      obtain ⟨rfl, hSe⟩ := hw
      rw [hSe] at hP
      exact e_z hx hb hr hlk hC hP hS d_MO_fits_129 (b2i_nar _) ⟨by first | (simp only [fitM, hk_1]; rfl) | (rw [fitM, if_neg (by omega), if_neg (by omega), if_neg (by omega), if_neg (by omega), if_neg (by omega)]; done) | simp_all [fitM, b2i], rfl⟩
    · refine lv_tableIn (off := 121) (tgt := 122) hx hb d_MO_fits_1 h1_1 h2_1 (by rw [hk_1]; rfl) (by decide) ?_
      refine lv_iload_n hx hb d_MO_fits_122 rfl (lv_at hl 0 rfl) ?_
      refine lv_iconst (v := 0) hx hb d_MO_fits_123 (by decide) ?_
      refine lv_bipush (v := 18) hx hb d_MO_fits_124 (by decide) ?_
      refine r_i hC hS (r_runS (np := 3) (As := [.int o, .int 0, .int 18]) (rest := []) hx hb hml hC hP hS (m_MO_in l G S o 0 18) l_MO_50 st_MO_in in_MO c_MO_in_in (by decide +kernel) ⟨by simp only [rmF]; omega, by simp only [rmF]; omega⟩ rfl hl.1 (Nat.le_of_ble_eq_true rfl) d_MO_fits_126 ⟨Nat.le_refl _, Nat.le_refl _⟩) (fun r_126 S_126 H locs hw hP hS => ?_)
      obtain ⟨rfl, hSe⟩ := hw
      rw [hSe] at hP
      exact e_z hx hb hr hlk hC hP hS d_MO_fits_129 (b2i_nar _) ⟨by first | (simp only [fitM, hk_1]; rfl) | (rw [fitM, if_neg (by omega), if_neg (by omega), if_neg (by omega), if_neg (by omega), if_neg (by omega)]; done) | simp_all [fitM, b2i], rfl⟩
    · refine lv_tableIn (off := 121) (tgt := 122) hx hb d_MO_fits_1 h1_1 h2_1 (by rw [hk_1]; rfl) (by decide) ?_
      refine lv_iload_n hx hb d_MO_fits_122 rfl (lv_at hl 0 rfl) ?_
      refine lv_iconst (v := 0) hx hb d_MO_fits_123 (by decide) ?_
      refine lv_bipush (v := 18) hx hb d_MO_fits_124 (by decide) ?_
      refine r_i hC hS (r_runS (np := 3) (As := [.int o, .int 0, .int 18]) (rest := []) hx hb hml hC hP hS (m_MO_in l G S o 0 18) l_MO_50 st_MO_in in_MO c_MO_in_in (by decide +kernel) ⟨by simp only [rmF]; omega, by simp only [rmF]; omega⟩ rfl hl.1 (Nat.le_of_ble_eq_true rfl) d_MO_fits_126 ⟨Nat.le_refl _, Nat.le_refl _⟩) (fun r_126 S_126 H locs hw hP hS => ?_)
      obtain ⟨rfl, hSe⟩ := hw
      rw [hSe] at hP
      exact e_z hx hb hr hlk hC hP hS d_MO_fits_129 (b2i_nar _) ⟨by first | (simp only [fitM, hk_1]; rfl) | (rw [fitM, if_neg (by omega), if_neg (by omega), if_neg (by omega), if_neg (by omega), if_neg (by omega)]; done) | simp_all [fitM, b2i], rfl⟩
    · refine lv_tableIn (off := 78) (tgt := 79) hx hb d_MO_fits_1 h1_1 h2_1 (by rw [hk_1]; rfl) (by decide) ?_
      refine lv_iload_n hx hb d_MO_fits_79 rfl (lv_at hl 1 rfl) ?_
      refine lv_iconst (v := 0) hx hb d_MO_fits_80 (by decide) ?_
      refine lv_bipush (v := 6) hx hb d_MO_fits_81 (by decide) ?_
      refine r_i hC hS (r_runS (np := 3) (As := [.int a, .int 0, .int 6]) (rest := []) hx hb hml hC hP hS (m_MO_in l G S a 0 6) l_MO_50 st_MO_in in_MO c_MO_in_in (by decide +kernel) ⟨by simp only [rmF]; omega, by simp only [rmF]; omega⟩ rfl hl.1 (Nat.le_of_ble_eq_true rfl) d_MO_fits_83 ⟨Nat.le_refl _, Nat.le_refl _⟩) (fun r_83 S_83 H locs hw hP hS => ?_)
      obtain ⟨rfl, hSe⟩ := hw
      rw [hSe] at hP
      exact e_z hx hb hr hlk hC hP hS d_MO_fits_86 (b2i_nar _) ⟨by first | (simp only [fitM, hk_1]; rfl) | (rw [fitM, if_neg (by omega), if_neg (by omega), if_neg (by omega), if_neg (by omega), if_neg (by omega)]; done) | simp_all [fitM, b2i], rfl⟩
    · refine lv_tableIn (off := 78) (tgt := 79) hx hb d_MO_fits_1 h1_1 h2_1 (by rw [hk_1]; rfl) (by decide) ?_
      refine lv_iload_n hx hb d_MO_fits_79 rfl (lv_at hl 1 rfl) ?_
      refine lv_iconst (v := 0) hx hb d_MO_fits_80 (by decide) ?_
      refine lv_bipush (v := 6) hx hb d_MO_fits_81 (by decide) ?_
      refine r_i hC hS (r_runS (np := 3) (As := [.int a, .int 0, .int 6]) (rest := []) hx hb hml hC hP hS (m_MO_in l G S a 0 6) l_MO_50 st_MO_in in_MO c_MO_in_in (by decide +kernel) ⟨by simp only [rmF]; omega, by simp only [rmF]; omega⟩ rfl hl.1 (Nat.le_of_ble_eq_true rfl) d_MO_fits_83 ⟨Nat.le_refl _, Nat.le_refl _⟩) (fun r_83 S_83 H locs hw hP hS => ?_)
      obtain ⟨rfl, hSe⟩ := hw
      rw [hSe] at hP
      exact e_z hx hb hr hlk hC hP hS d_MO_fits_86 (b2i_nar _) ⟨by first | (simp only [fitM, hk_1]; rfl) | (rw [fitM, if_neg (by omega), if_neg (by omega), if_neg (by omega), if_neg (by omega), if_neg (by omega)]; done) | simp_all [fitM, b2i], rfl⟩
    · refine lv_tableIn (off := 86) (tgt := 87) hx hb d_MO_fits_1 h1_1 h2_1 (by rw [hk_1]; rfl) (by decide) ?_
      refine lv_iload_n hx hb d_MO_fits_87 rfl (lv_at hl 1 rfl) ?_
      refine lv_iconst (v := 0) hx hb d_MO_fits_88 (by decide) ?_
      refine lv_bipush (v := 6) hx hb d_MO_fits_89 (by decide) ?_
      refine r_i hC hS (r_runS (np := 3) (As := [.int a, .int 0, .int 6]) (rest := []) hx hb hml hC hP hS (m_MO_in l G S a 0 6) l_MO_50 st_MO_in in_MO c_MO_in_in (by decide +kernel) ⟨by simp only [rmF]; omega, by simp only [rmF]; omega⟩ rfl hl.1 (Nat.le_of_ble_eq_true rfl) d_MO_fits_91 ⟨Nat.le_refl _, Nat.le_refl _⟩) (fun r_91 S_91 H locs hw hP hS => ?_)
      obtain ⟨rfl, hSe⟩ := hw
      rw [hSe] at hP
      refine lv_if_eq (tgt := 106) hx hb d_MO_fits_94 (by decide) (fun c_94 => ?_) (fun c_94 => ?_)
      · have c_94 := b2i_f c_94
        refine lv_iconst (v := 0) hx hb d_MO_fits_106 (by decide) ?_
        exact e_z hx hb hr hlk hC hP hS d_MO_fits_107 (by decide) ⟨by first | (simp only [fitM, hk_1]; rfl) | (rw [fitM, if_neg (by omega), if_neg (by omega), if_neg (by omega), if_neg (by omega), if_neg (by omega)]; done) | simp_all [fitM, b2i], rfl⟩
      · have c_94 := b2i_t c_94
        refine lv_iload_n hx hb d_MO_fits_97 rfl (lv_at hl 1 rfl) ?_
        refine lv_iconst (v := 3) hx hb d_MO_fits_98 (by decide) ?_
        refine lv_icmp_eq (tgt := 106) hx hb d_MO_fits_99 (by decide) (fun c_99 => ?_) (fun c_99 => ?_)
        · refine lv_iconst (v := 0) hx hb d_MO_fits_106 (by decide) ?_
          exact e_z hx hb hr hlk hC hP hS d_MO_fits_107 (by decide) ⟨by first | (simp only [fitM, hk_1]; rfl) | (rw [fitM, if_neg (by omega), if_neg (by omega), if_neg (by omega), if_neg (by omega), if_neg (by omega)]; done) | simp_all [fitM, b2i], rfl⟩
        · refine lv_iconst (v := 1) hx hb d_MO_fits_102 (by decide) ?_
          refine lv_goto (tgt := 107) hx hb d_MO_fits_103 (by decide) ?_
          exact e_z hx hb hr hlk hC hP hS d_MO_fits_107 (by decide) ⟨by first | (simp only [fitM, hk_1]; rfl) | (rw [fitM, if_neg (by omega), if_neg (by omega), if_neg (by omega), if_neg (by omega), if_neg (by omega)]; done) | simp_all [fitM, b2i], rfl⟩
    · refine lv_tableIn (off := 107) (tgt := 108) hx hb d_MO_fits_1 h1_1 h2_1 (by rw [hk_1]; rfl) (by decide) ?_
      refine lv_iload_n hx hb d_MO_fits_108 rfl (lv_at hl 1 rfl) ?_
      refine lv_iconst (v := 0) hx hb d_MO_fits_109 (by decide) ?_
      refine lv_iconst (v := 2) hx hb d_MO_fits_110 (by decide) ?_
      refine r_i hC hS (r_runS (np := 3) (As := [.int a, .int 0, .int 2]) (rest := []) hx hb hml hC hP hS (m_MO_in l G S a 0 2) l_MO_50 st_MO_in in_MO c_MO_in_in (by decide +kernel) ⟨by simp only [rmF]; omega, by simp only [rmF]; omega⟩ rfl hl.1 (Nat.le_of_ble_eq_true rfl) d_MO_fits_111 ⟨Nat.le_refl _, Nat.le_refl _⟩) (fun r_111 S_111 H locs hw hP hS => ?_)
      obtain ⟨rfl, hSe⟩ := hw
      rw [hSe] at hP
      exact e_z hx hb hr hlk hC hP hS d_MO_fits_114 (b2i_nar _) ⟨by first | (simp only [fitM, hk_1]; rfl) | (rw [fitM, if_neg (by omega), if_neg (by omega), if_neg (by omega), if_neg (by omega), if_neg (by omega)]; done) | simp_all [fitM, b2i], rfl⟩
    · refine lv_tableIn (off := 107) (tgt := 108) hx hb d_MO_fits_1 h1_1 h2_1 (by rw [hk_1]; rfl) (by decide) ?_
      refine lv_iload_n hx hb d_MO_fits_108 rfl (lv_at hl 1 rfl) ?_
      refine lv_iconst (v := 0) hx hb d_MO_fits_109 (by decide) ?_
      refine lv_iconst (v := 2) hx hb d_MO_fits_110 (by decide) ?_
      refine r_i hC hS (r_runS (np := 3) (As := [.int a, .int 0, .int 2]) (rest := []) hx hb hml hC hP hS (m_MO_in l G S a 0 2) l_MO_50 st_MO_in in_MO c_MO_in_in (by decide +kernel) ⟨by simp only [rmF]; omega, by simp only [rmF]; omega⟩ rfl hl.1 (Nat.le_of_ble_eq_true rfl) d_MO_fits_111 ⟨Nat.le_refl _, Nat.le_refl _⟩) (fun r_111 S_111 H locs hw hP hS => ?_)
      obtain ⟨rfl, hSe⟩ := hw
      rw [hSe] at hP
      exact e_z hx hb hr hlk hC hP hS d_MO_fits_114 (b2i_nar _) ⟨by first | (simp only [fitM, hk_1]; rfl) | (rw [fitM, if_neg (by omega), if_neg (by omega), if_neg (by omega), if_neg (by omega), if_neg (by omega)]; done) | simp_all [fitM, b2i], rfl⟩
    · refine lv_tableIn (off := 107) (tgt := 108) hx hb d_MO_fits_1 h1_1 h2_1 (by rw [hk_1]; rfl) (by decide) ?_
      refine lv_iload_n hx hb d_MO_fits_108 rfl (lv_at hl 1 rfl) ?_
      refine lv_iconst (v := 0) hx hb d_MO_fits_109 (by decide) ?_
      refine lv_iconst (v := 2) hx hb d_MO_fits_110 (by decide) ?_
      refine r_i hC hS (r_runS (np := 3) (As := [.int a, .int 0, .int 2]) (rest := []) hx hb hml hC hP hS (m_MO_in l G S a 0 2) l_MO_50 st_MO_in in_MO c_MO_in_in (by decide +kernel) ⟨by simp only [rmF]; omega, by simp only [rmF]; omega⟩ rfl hl.1 (Nat.le_of_ble_eq_true rfl) d_MO_fits_111 ⟨Nat.le_refl _, Nat.le_refl _⟩) (fun r_111 S_111 H locs hw hP hS => ?_)
      obtain ⟨rfl, hSe⟩ := hw
      rw [hSe] at hP
      exact e_z hx hb hr hlk hC hP hS d_MO_fits_114 (b2i_nar _) ⟨by first | (simp only [fitM, hk_1]; rfl) | (rw [fitM, if_neg (by omega), if_neg (by omega), if_neg (by omega), if_neg (by omega), if_neg (by omega)]; done) | simp_all [fitM, b2i], rfl⟩
    · refine lv_tableIn (off := 114) (tgt := 115) hx hb d_MO_fits_1 h1_1 h2_1 (by rw [hk_1]; rfl) (by decide) ?_
      refine lv_iload_n hx hb d_MO_fits_115 rfl (lv_at hl 1 rfl) ?_
      refine lv_iconst (v := 0) hx hb d_MO_fits_116 (by decide) ?_
      refine lv_iconst (v := 3) hx hb d_MO_fits_117 (by decide) ?_
      refine r_i hC hS (r_runS (np := 3) (As := [.int a, .int 0, .int 3]) (rest := []) hx hb hml hC hP hS (m_MO_in l G S a 0 3) l_MO_50 st_MO_in in_MO c_MO_in_in (by decide +kernel) ⟨by simp only [rmF]; omega, by simp only [rmF]; omega⟩ rfl hl.1 (Nat.le_of_ble_eq_true rfl) d_MO_fits_118 ⟨Nat.le_refl _, Nat.le_refl _⟩) (fun r_118 S_118 H locs hw hP hS => ?_)
      obtain ⟨rfl, hSe⟩ := hw
      rw [hSe] at hP
      exact e_z hx hb hr hlk hC hP hS d_MO_fits_121 (b2i_nar _) ⟨by first | (simp only [fitM, hk_1]; rfl) | (rw [fitM, if_neg (by omega), if_neg (by omega), if_neg (by omega), if_neg (by omega), if_neg (by omega)]; done) | simp_all [fitM, b2i], rfl⟩
    · refine lv_tableIn (off := 121) (tgt := 122) hx hb d_MO_fits_1 h1_1 h2_1 (by rw [hk_1]; rfl) (by decide) ?_
      refine lv_iload_n hx hb d_MO_fits_122 rfl (lv_at hl 0 rfl) ?_
      refine lv_iconst (v := 0) hx hb d_MO_fits_123 (by decide) ?_
      refine lv_bipush (v := 18) hx hb d_MO_fits_124 (by decide) ?_
      refine r_i hC hS (r_runS (np := 3) (As := [.int o, .int 0, .int 18]) (rest := []) hx hb hml hC hP hS (m_MO_in l G S o 0 18) l_MO_50 st_MO_in in_MO c_MO_in_in (by decide +kernel) ⟨by simp only [rmF]; omega, by simp only [rmF]; omega⟩ rfl hl.1 (Nat.le_of_ble_eq_true rfl) d_MO_fits_126 ⟨Nat.le_refl _, Nat.le_refl _⟩) (fun r_126 S_126 H locs hw hP hS => ?_)
      obtain ⟨rfl, hSe⟩ := hw
      rw [hSe] at hP
      exact e_z hx hb hr hlk hC hP hS d_MO_fits_129 (b2i_nar _) ⟨by first | (simp only [fitM, hk_1]; rfl) | (rw [fitM, if_neg (by omega), if_neg (by omega), if_neg (by omega), if_neg (by omega), if_neg (by omega)]; done) | simp_all [fitM, b2i], rfl⟩
    · refine lv_tableIn (off := 107) (tgt := 108) hx hb d_MO_fits_1 h1_1 h2_1 (by rw [hk_1]; rfl) (by decide) ?_
      refine lv_iload_n hx hb d_MO_fits_108 rfl (lv_at hl 1 rfl) ?_
      refine lv_iconst (v := 0) hx hb d_MO_fits_109 (by decide) ?_
      refine lv_iconst (v := 2) hx hb d_MO_fits_110 (by decide) ?_
      refine r_i hC hS (r_runS (np := 3) (As := [.int a, .int 0, .int 2]) (rest := []) hx hb hml hC hP hS (m_MO_in l G S a 0 2) l_MO_50 st_MO_in in_MO c_MO_in_in (by decide +kernel) ⟨by simp only [rmF]; omega, by simp only [rmF]; omega⟩ rfl hl.1 (Nat.le_of_ble_eq_true rfl) d_MO_fits_111 ⟨Nat.le_refl _, Nat.le_refl _⟩) (fun r_111 S_111 H locs hw hP hS => ?_)
      obtain ⟨rfl, hSe⟩ := hw
      rw [hSe] at hP
      exact e_z hx hb hr hlk hC hP hS d_MO_fits_114 (b2i_nar _) ⟨by first | (simp only [fitM, hk_1]; rfl) | (rw [fitM, if_neg (by omega), if_neg (by omega), if_neg (by omega), if_neg (by omega), if_neg (by omega)]; done) | simp_all [fitM, b2i], rfl⟩
    · refine lv_tableIn (off := 78) (tgt := 79) hx hb d_MO_fits_1 h1_1 h2_1 (by rw [hk_1]; rfl) (by decide) ?_
      refine lv_iload_n hx hb d_MO_fits_79 rfl (lv_at hl 1 rfl) ?_
      refine lv_iconst (v := 0) hx hb d_MO_fits_80 (by decide) ?_
      refine lv_bipush (v := 6) hx hb d_MO_fits_81 (by decide) ?_
      refine r_i hC hS (r_runS (np := 3) (As := [.int a, .int 0, .int 6]) (rest := []) hx hb hml hC hP hS (m_MO_in l G S a 0 6) l_MO_50 st_MO_in in_MO c_MO_in_in (by decide +kernel) ⟨by simp only [rmF]; omega, by simp only [rmF]; omega⟩ rfl hl.1 (Nat.le_of_ble_eq_true rfl) d_MO_fits_83 ⟨Nat.le_refl _, Nat.le_refl _⟩) (fun r_83 S_83 H locs hw hP hS => ?_)
      obtain ⟨rfl, hSe⟩ := hw
      rw [hSe] at hP
      exact e_z hx hb hr hlk hC hP hS d_MO_fits_86 (b2i_nar _) ⟨by first | (simp only [fitM, hk_1]; rfl) | (rw [fitM, if_neg (by omega), if_neg (by omega), if_neg (by omega), if_neg (by omega), if_neg (by omega)]; done) | simp_all [fitM, b2i], rfl⟩

set_option maxHeartbeats 4000000 in
set_option maxRecDepth 100000 in
theorem m_MO_place (l : Launch) (G : WG) (S : SS)  : Ci l y_MO_place b_MO_place 1 (some (.int)) 0 G [.ref (gA G 44)] S (fun r S1 => r = S 44 3 ∧ S1 = S) := by
  refine mk l (by decide +kernel) (Nat.le_of_ble_eq_true rfl) ?_
  intro pp_ ee_ ss_ mm_ be_ me_ co_ ls hx hb hr hlk hml hC hP hS hl
  have hl : lv_has ls 1 [(0, .ref (gA G 44))] := hl
  refine lv_aload_n hx hb d_MO_place_0 rfl (lv_at hl 0 rfl) ?_
  refine r_get hx hb hC hP i_MO (44) (by decide) rfl rfl 3 (by decide) l_MO_19 rfl d_MO_place_1 ?_
  exact e_i hx hb hr hlk hC hP hS d_MO_place_4 ⟨rfl, rfl⟩

set_option maxHeartbeats 4000000 in
set_option maxRecDepth 100000 in
theorem m_MO_value (l : Launch) (G : WG) (S : SS)  : Ci l y_MO_value b_MO_value 1 (some (.int)) 0 G [.ref (gA G 44)] S (fun r S1 => r = S 44 21 ∧ S1 = S) := by
  refine mk l (by decide +kernel) (Nat.le_of_ble_eq_true rfl) ?_
  intro pp_ ee_ ss_ mm_ be_ me_ co_ ls hx hb hr hlk hml hC hP hS hl
  have hl : lv_has ls 1 [(0, .ref (gA G 44))] := hl
  refine lv_aload_n hx hb d_MO_value_0 rfl (lv_at hl 0 rfl) ?_
  refine r_get hx hb hC hP i_MO (44) (by decide) rfl rfl 21 (by decide) l_MO_173 rfl d_MO_value_1 ?_
  exact e_i hx hb hr hlk hC hP hS d_MO_value_4 ⟨rfl, rfl⟩

set_option maxHeartbeats 4000000 in
set_option maxRecDepth 100000 in
theorem m_MO_steps (l : Launch) (G : WG) (S : SS)  : Ci l y_MO_steps b_MO_steps 1 (some (.int)) 0 G [.ref (gA G 44)] S (fun r S1 => r = S 44 19 ∧ S1 = S) := by
  refine mk l (by decide +kernel) (Nat.le_of_ble_eq_true rfl) ?_
  intro pp_ ee_ ss_ mm_ be_ me_ co_ ls hx hb hr hlk hml hC hP hS hl
  have hl : lv_has ls 1 [(0, .ref (gA G 44))] := hl
  refine lv_aload_n hx hb d_MO_steps_0 rfl (lv_at hl 0 rfl) ?_
  refine r_get hx hb hC hP i_MO (44) (by decide) rfl rfl 19 (by decide) l_MO_114 rfl d_MO_steps_1 ?_
  exact e_i hx hb hr hlk hC hP hS d_MO_steps_4 ⟨rfl, rfl⟩

set_option maxHeartbeats 4000000 in
set_option maxRecDepth 100000 in
theorem m_MO_events (l : Launch) (G : WG) (S : SS)  : Ci l y_MO_events b_MO_events 1 (some (.int)) 0 G [.ref (gA G 44)] S (fun r S1 => r = S 44 24 ∧ S1 = S) := by
  refine mk l (by decide +kernel) (Nat.le_of_ble_eq_true rfl) ?_
  intro pp_ ee_ ss_ mm_ be_ me_ co_ ls hx hb hr hlk hml hC hP hS hl
  have hl : lv_has ls 1 [(0, .ref (gA G 44))] := hl
  refine lv_aload_n hx hb d_MO_events_0 rfl (lv_at hl 0 rfl) ?_
  refine r_get hx hb hC hP i_MO (44) (by decide) rfl rfl 24 (by decide) l_MO_143 rfl d_MO_events_1 ?_
  exact e_i hx hb hr hlk hC hP hS d_MO_events_4 ⟨rfl, rfl⟩

set_option maxHeartbeats 4000000 in
set_option maxRecDepth 100000 in
theorem m_MO_most (l : Launch) (G : WG) (S : SS)  : Ci l y_MO_most b_MO_most 1 (some (.int)) 0 G [.ref (gA G 44)] S (fun r S1 => r = S 44 20 ∧ S1 = S) := by
  refine mk l (by decide +kernel) (Nat.le_of_ble_eq_true rfl) ?_
  intro pp_ ee_ ss_ mm_ be_ me_ co_ ls hx hb hr hlk hml hC hP hS hl
  have hl : lv_has ls 1 [(0, .ref (gA G 44))] := hl
  refine lv_aload_n hx hb d_MO_most_0 rfl (lv_at hl 0 rfl) ?_
  refine r_get hx hb hC hP i_MO (44) (by decide) rfl rfl 20 (by decide) l_MO_104 rfl d_MO_most_1 ?_
  exact e_i hx hb hr hlk hC hP hS d_MO_most_4 ⟨rfl, rfl⟩

def moOpen (S : SS) (D : Nat) (a b : Int32) : SS := su (su (su S 48 D a) 50 D b) 44 8 (nI (D + 1))
def moEnter (S : SS) (D : Nat) (a b c : Int32) : SS := su (su (su (su (su (su S 48 D a) 49 D b) 50 D c) 51 D 0) 44 8 (nI (D + 1))) 44 9 (b + 1)
def moEnds (S : SS) (a b : Int32) : SS := su (su S 44 11 a) 44 12 b
def moMade (S : SS) (n : Nat) (a b : Int32) : SS := su (su (su S 44 18 (nI (n + 1))) 54 (n + 1) a) 55 (n + 1) b
def moRaise (S : SS) (n : Nat) (a b : Int32) : SS := moEnds (moMade S n a b) 4 (nI (n + 1))
set_option maxHeartbeats 4000000 in
set_option maxRecDepth 100000 in
theorem m_MO_openBlock (l : Launch) (G : WG) (S : SS) (D : Nat) (hD8 : D < 80) (hD : S 44 8 = nI D) (a b : Int32) : Cv l y_MO_openBlock b_MO_openBlock 3 0 G [.ref (gA G 44), .int a, .int b] S (fun S1 => S1 = moOpen S D a b) := by
  refine mk l (by decide +kernel) (Nat.le_of_ble_eq_true rfl) ?_
  intro pp_ ee_ ss_ mm_ be_ me_ co_ ls hx hb hr hlk hml hC hP hS hl
  have hl : lv_has ls 3 [(0, .ref (gA G 44)), (1, .int a), (2, .int b)] := hl
  refine lv_aload_n hx hb d_MO_openBlock_0 rfl (lv_at hl 0 rfl) ?_
  refine r_get hx hb hC hP i_MO (44) (by decide) rfl rfl 4 (by decide) l_MO_23 rfl d_MO_openBlock_1 ?_
  refine lv_aload_n hx hb d_MO_openBlock_4 rfl (lv_at hl 0 rfl) ?_
  refine r_get hx hb hC hP i_MO (44) (by decide) rfl rfl 8 (by decide) l_MO_58 rfl d_MO_openBlock_5 ?_
  rw [show S 44 8 = nI D from hD]
  refine lv_iload_n hx hb d_MO_openBlock_8 rfl (lv_at hl 1 rfl) ?_
  refine r_ist hx hb hC hP hS (48) (by decide) (fun _ => rfl) D rfl (by omega) (by decide) d_MO_openBlock_9 (fun H locs hP hS => ?_)
  refine lv_aload_n hx hb d_MO_openBlock_10 rfl (lv_at hl 0 rfl) ?_
  refine r_get hx hb hC hP i_MO (44) (by decide) rfl rfl 6 (by decide) l_MO_29 rfl d_MO_openBlock_11 ?_
  refine lv_aload_n hx hb d_MO_openBlock_14 rfl (lv_at hl 0 rfl) ?_
  refine r_get hx hb hC hP i_MO (44) (by decide) rfl rfl 8 (by decide) l_MO_58 rfl d_MO_openBlock_15 ?_
  rw [show (su S 48 D a) 44 8 = S 44 8 from by rw [su_cell _ _ _ (by decide)]]
  rw [show S 44 8 = nI D from hD]
  refine lv_iload_n hx hb d_MO_openBlock_18 rfl (lv_at hl 2 rfl) ?_
  refine r_ist hx hb hC hP hS (50) (by decide) (fun _ => rfl) D rfl (by omega) (by decide) d_MO_openBlock_19 (fun H locs hP hS => ?_)
  refine lv_aload_n hx hb d_MO_openBlock_20 rfl (lv_at hl 0 rfl) ?_
  refine lv_dup hx hb d_MO_openBlock_21 rfl ?_
  refine r_get hx hb hC hP i_MO (44) (by decide) rfl rfl 8 (by decide) l_MO_58 rfl d_MO_openBlock_22 ?_
  rw [show (su (su S 48 D a) 50 D b) 44 8 = S 44 8 from by rw [su_cell _ _ _ (by decide), su_cell _ _ _ (by decide)]]
  rw [show S 44 8 = nI D from hD]
  refine lv_iconst (v := 1) hx hb d_MO_openBlock_25 (by decide) ?_
  refine lv_iadd hx hb d_MO_openBlock_26 ?_
  rw [show (nI D) + 1 = nI (D + 1) from nI_1 D]
  refine r_put hx hb hC hP hS i_MO t_MO t_MO_ok n_MO (44) (by decide) rfl rfl 8 (by decide) l_MO_58 rfl rfl rfl (Nat.le_of_ble_eq_true rfl) d_MO_openBlock_27 (fun H locs hP hS => ?_)
  exact e_v hx hb hr hlk hC hP hS d_MO_openBlock_30 rfl

set_option maxHeartbeats 4000000 in
set_option maxRecDepth 100000 in
theorem m_MO_enter (l : Launch) (G : WG) (S : SS) (D : Nat) (hD8 : D < 80) (hD : S 44 8 = nI D) (a b c : Int32) : Cv l y_MO_enter b_MO_enter 4 0 G [.ref (gA G 44), .int a, .int b, .int c] S (fun S1 => S1 = moEnter S D a b c) := by
  refine mk l (by decide +kernel) (Nat.le_of_ble_eq_true rfl) ?_
  intro pp_ ee_ ss_ mm_ be_ me_ co_ ls hx hb hr hlk hml hC hP hS hl
  have hl : lv_has ls 4 [(0, .ref (gA G 44)), (1, .int a), (2, .int b), (3, .int c)] := hl
  refine lv_aload_n hx hb d_MO_enter_0 rfl (lv_at hl 0 rfl) ?_
  refine r_get hx hb hC hP i_MO (44) (by decide) rfl rfl 4 (by decide) l_MO_23 rfl d_MO_enter_1 ?_
  refine lv_aload_n hx hb d_MO_enter_4 rfl (lv_at hl 0 rfl) ?_
  refine r_get hx hb hC hP i_MO (44) (by decide) rfl rfl 8 (by decide) l_MO_58 rfl d_MO_enter_5 ?_
  rw [show S 44 8 = nI D from hD]
  refine lv_iload_n hx hb d_MO_enter_8 rfl (lv_at hl 1 rfl) ?_
  refine r_ist hx hb hC hP hS (48) (by decide) (fun _ => rfl) D rfl (by omega) (by decide) d_MO_enter_9 (fun H locs hP hS => ?_)
  refine lv_aload_n hx hb d_MO_enter_10 rfl (lv_at hl 0 rfl) ?_
  refine r_get hx hb hC hP i_MO (44) (by decide) rfl rfl 5 (by decide) l_MO_26 rfl d_MO_enter_11 ?_
  refine lv_aload_n hx hb d_MO_enter_14 rfl (lv_at hl 0 rfl) ?_
  refine r_get hx hb hC hP i_MO (44) (by decide) rfl rfl 8 (by decide) l_MO_58 rfl d_MO_enter_15 ?_
  rw [show (su S 48 D a) 44 8 = S 44 8 from by rw [su_cell _ _ _ (by decide)]]
  rw [show S 44 8 = nI D from hD]
  refine lv_iload_n hx hb d_MO_enter_18 rfl (lv_at hl 2 rfl) ?_
  refine r_ist hx hb hC hP hS (49) (by decide) (fun _ => rfl) D rfl (by omega) (by decide) d_MO_enter_19 (fun H locs hP hS => ?_)
  refine lv_aload_n hx hb d_MO_enter_20 rfl (lv_at hl 0 rfl) ?_
  refine r_get hx hb hC hP i_MO (44) (by decide) rfl rfl 6 (by decide) l_MO_29 rfl d_MO_enter_21 ?_
  refine lv_aload_n hx hb d_MO_enter_24 rfl (lv_at hl 0 rfl) ?_
  refine r_get hx hb hC hP i_MO (44) (by decide) rfl rfl 8 (by decide) l_MO_58 rfl d_MO_enter_25 ?_
  rw [show (su (su S 48 D a) 49 D b) 44 8 = S 44 8 from by rw [su_cell _ _ _ (by decide), su_cell _ _ _ (by decide)]]
  rw [show S 44 8 = nI D from hD]
  refine lv_iload_n hx hb d_MO_enter_28 rfl (lv_at hl 3 rfl) ?_
  refine r_ist hx hb hC hP hS (50) (by decide) (fun _ => rfl) D rfl (by omega) (by decide) d_MO_enter_29 (fun H locs hP hS => ?_)
  refine lv_aload_n hx hb d_MO_enter_30 rfl (lv_at hl 0 rfl) ?_
  refine r_get hx hb hC hP i_MO (44) (by decide) rfl rfl 7 (by decide) l_MO_32 rfl d_MO_enter_31 ?_
  refine lv_aload_n hx hb d_MO_enter_34 rfl (lv_at hl 0 rfl) ?_
  refine r_get hx hb hC hP i_MO (44) (by decide) rfl rfl 8 (by decide) l_MO_58 rfl d_MO_enter_35 ?_
  rw [show (su (su (su S 48 D a) 49 D b) 50 D c) 44 8 = S 44 8 from by rw [su_cell _ _ _ (by decide), su_cell _ _ _ (by decide), su_cell _ _ _ (by decide)]]
  rw [show S 44 8 = nI D from hD]
  refine lv_iconst (v := 0) hx hb d_MO_enter_38 (by decide) ?_
  refine r_ist hx hb hC hP hS (51) (by decide) (fun _ => rfl) D rfl (by omega) (by decide) d_MO_enter_39 (fun H locs hP hS => ?_)
  refine lv_aload_n hx hb d_MO_enter_40 rfl (lv_at hl 0 rfl) ?_
  refine lv_dup hx hb d_MO_enter_41 rfl ?_
  refine r_get hx hb hC hP i_MO (44) (by decide) rfl rfl 8 (by decide) l_MO_58 rfl d_MO_enter_42 ?_
  rw [show (su (su (su (su S 48 D a) 49 D b) 50 D c) 51 D 0) 44 8 = S 44 8 from by rw [su_cell _ _ _ (by decide), su_cell _ _ _ (by decide), su_cell _ _ _ (by decide), su_cell _ _ _ (by decide)]]
  rw [show S 44 8 = nI D from hD]
  refine lv_iconst (v := 1) hx hb d_MO_enter_45 (by decide) ?_
  refine lv_iadd hx hb d_MO_enter_46 ?_
  rw [show (nI D) + 1 = nI (D + 1) from nI_1 D]
  refine r_put hx hb hC hP hS i_MO t_MO t_MO_ok n_MO (44) (by decide) rfl rfl 8 (by decide) l_MO_58 rfl rfl rfl (Nat.le_of_ble_eq_true rfl) d_MO_enter_47 (fun H locs hP hS => ?_)
  refine lv_aload_n hx hb d_MO_enter_50 rfl (lv_at hl 0 rfl) ?_
  refine lv_iload_n hx hb d_MO_enter_51 rfl (lv_at hl 2 rfl) ?_
  refine lv_iconst (v := 1) hx hb d_MO_enter_52 (by decide) ?_
  refine lv_iadd hx hb d_MO_enter_53 ?_
  refine r_put hx hb hC hP hS i_MO t_MO t_MO_ok n_MO (44) (by decide) rfl rfl 9 (by decide) l_MO_86 rfl rfl rfl (Nat.le_of_ble_eq_true rfl) d_MO_enter_54 (fun H locs hP hS => ?_)
  exact e_v hx hb hr hlk hC hP hS d_MO_enter_57 rfl

set_option maxHeartbeats 4000000 in
set_option maxRecDepth 100000 in
theorem m_MO_made (l : Launch) (G : WG) (S : SS) (n : Nat) (hn6 : n < 600) (hn : S 44 18 = nI n) (a b : Int32) : Ci l y_MO_made b_MO_made 3 (some (.int)) 0 G [.ref (gA G 44), .int a, .int b] S (fun r S1 => r = nI (n + 1) ∧ S1 = moMade S n a b) := by
  refine mk l (by decide +kernel) (Nat.le_of_ble_eq_true rfl) ?_
  intro pp_ ee_ ss_ mm_ be_ me_ co_ ls hx hb hr hlk hml hC hP hS hl
  have hl : lv_has ls 3 [(0, .ref (gA G 44)), (1, .int a), (2, .int b)] := hl
  refine lv_aload_n hx hb d_MO_made_0 rfl (lv_at hl 0 rfl) ?_
  refine lv_dup hx hb d_MO_made_1 rfl ?_
  refine r_get hx hb hC hP i_MO (44) (by decide) rfl rfl 18 (by decide) l_MO_89 rfl d_MO_made_2 ?_
  rw [show S 44 18 = nI n from hn]
  refine lv_iconst (v := 1) hx hb d_MO_made_5 (by decide) ?_
  refine lv_iadd hx hb d_MO_made_6 ?_
  rw [show (nI n) + 1 = nI (n + 1) from nI_1 n]
  refine r_put hx hb hC hP hS i_MO t_MO t_MO_ok n_MO (44) (by decide) rfl rfl 18 (by decide) l_MO_89 rfl rfl rfl (Nat.le_of_ble_eq_true rfl) d_MO_made_7 (fun H locs hP hS => ?_)
  refine lv_aload_n hx hb d_MO_made_10 rfl (lv_at hl 0 rfl) ?_
  refine r_get hx hb hC hP i_MO (44) (by decide) rfl rfl 16 (by decide) l_MO_41 rfl d_MO_made_11 ?_
  refine lv_aload_n hx hb d_MO_made_14 rfl (lv_at hl 0 rfl) ?_
  refine r_get hx hb hC hP i_MO (44) (by decide) rfl rfl 18 (by decide) l_MO_89 rfl d_MO_made_15 ?_
  rw [show (su S 44 18 (nI (n + 1))) 44 18 = nI (n + 1) from by rw [su_same]]
  refine lv_iload_n hx hb d_MO_made_18 rfl (lv_at hl 1 rfl) ?_
  refine r_ist hx hb hC hP hS (54) (by decide) (fun _ => rfl) (n + 1) rfl (by omega) (by decide) d_MO_made_19 (fun H locs hP hS => ?_)
  refine lv_aload_n hx hb d_MO_made_20 rfl (lv_at hl 0 rfl) ?_
  refine r_get hx hb hC hP i_MO (44) (by decide) rfl rfl 17 (by decide) l_MO_44 rfl d_MO_made_21 ?_
  refine lv_aload_n hx hb d_MO_made_24 rfl (lv_at hl 0 rfl) ?_
  refine r_get hx hb hC hP i_MO (44) (by decide) rfl rfl 18 (by decide) l_MO_89 rfl d_MO_made_25 ?_
  rw [show (su (su S 44 18 (nI (n + 1))) 54 (n + 1) a) 44 18 = nI (n + 1) from by rw [su_cell _ _ _ (by decide), su_same]]
  refine lv_iload_n hx hb d_MO_made_28 rfl (lv_at hl 2 rfl) ?_
  refine r_ist hx hb hC hP hS (55) (by decide) (fun _ => rfl) (n + 1) rfl (by omega) (by decide) d_MO_made_29 (fun H locs hP hS => ?_)
  refine lv_aload_n hx hb d_MO_made_30 rfl (lv_at hl 0 rfl) ?_
  refine r_get hx hb hC hP i_MO (44) (by decide) rfl rfl 18 (by decide) l_MO_89 rfl d_MO_made_31 ?_
  rw [show (su (su (su S 44 18 (nI (n + 1))) 54 (n + 1) a) 55 (n + 1) b) 44 18 = nI (n + 1) from by rw [su_cell _ _ _ (by decide), su_cell _ _ _ (by decide), su_same]]
  exact e_i hx hb hr hlk hC hP hS d_MO_made_34 ⟨rfl, rfl⟩

set_option maxHeartbeats 4000000 in
set_option maxRecDepth 100000 in
theorem m_MO_ends (l : Launch) (G : WG) (S : SS) (a b : Int32) : Cv l y_MO_ends b_MO_ends 3 0 G [.ref (gA G 44), .int a, .int b] S (fun S1 => S1 = moEnds S a b) := by
  refine mk l (by decide +kernel) (Nat.le_of_ble_eq_true rfl) ?_
  intro pp_ ee_ ss_ mm_ be_ me_ co_ ls hx hb hr hlk hml hC hP hS hl
  have hl : lv_has ls 3 [(0, .ref (gA G 44)), (1, .int a), (2, .int b)] := hl
  refine lv_aload_n hx hb d_MO_ends_0 rfl (lv_at hl 0 rfl) ?_
  refine lv_iload_n hx hb d_MO_ends_1 rfl (lv_at hl 1 rfl) ?_
  refine r_put hx hb hC hP hS i_MO t_MO t_MO_ok n_MO (44) (by decide) rfl rfl 11 (by decide) l_MO_92 rfl rfl rfl (Nat.le_of_ble_eq_true rfl) d_MO_ends_2 (fun H locs hP hS => ?_)
  refine lv_aload_n hx hb d_MO_ends_5 rfl (lv_at hl 0 rfl) ?_
  refine lv_iload_n hx hb d_MO_ends_6 rfl (lv_at hl 2 rfl) ?_
  refine r_put hx hb hC hP hS i_MO t_MO t_MO_ok n_MO (44) (by decide) rfl rfl 12 (by decide) l_MO_95 rfl rfl rfl (Nat.le_of_ble_eq_true rfl) d_MO_ends_7 (fun H locs hP hS => ?_)
  exact e_v hx hb hr hlk hC hP hS d_MO_ends_10 rfl

set_option maxHeartbeats 4000000 in
set_option maxRecDepth 100000 in
theorem m_MO_raise (l : Launch) (G : WG) (S : SS) (n : Nat) (hn6 : n < 600) (hn : S 44 18 = nI n) (a b : Int32) : Cv l y_MO_raise b_MO_raise 3 1 G [.ref (gA G 44), .int a, .int b] S (fun S1 => S1 = moRaise S n a b) := by
  refine mk l (by decide +kernel) (Nat.le_of_ble_eq_true rfl) ?_
  intro pp_ ee_ ss_ mm_ be_ me_ co_ ls hx hb hr hlk hml hC hP hS hl
  have hl : lv_has ls 3 [(0, .ref (gA G 44)), (1, .int a), (2, .int b)] := hl
  refine lv_aload_n hx hb d_MO_raise_0 rfl (lv_at hl 0 rfl) ?_
  refine lv_iconst (v := 4) hx hb d_MO_raise_1 (by decide) ?_
  refine lv_aload_n hx hb d_MO_raise_2 rfl (lv_at hl 0 rfl) ?_
  refine lv_iload_n hx hb d_MO_raise_3 rfl (lv_at hl 1 rfl) ?_
  refine lv_iload_n hx hb d_MO_raise_4 rfl (lv_at hl 2 rfl) ?_
  refine r_i hC hS (r_runV (np := 2) (As := [.int a, .int b]) (rest := [.int 4, .ref (gA G 44)]) hx hb hml hC hP hS (by decide) rfl rfl (m_MO_made l G S n (by omega) hn a b) l_MO_98 im_MO_made se_MO_made in_MO c_MO_made_in (by decide +kernel) ⟨by simp only [rmF]; omega, by simp only [rmF]; omega⟩ rfl hl.1 (Nat.le_of_ble_eq_true rfl) d_MO_raise_5 ⟨Nat.le_refl _, Nat.le_refl _⟩) (fun r_5 S_5 H locs hw hP hS => ?_)
  obtain ⟨rfl, hSe⟩ := hw
  rw [hSe] at hP
  refine r_v hC hS (r_runV (np := 2) (As := [.int 4, .int (nI (n + 1))]) (rest := []) hx hb hml hC hP hS (by decide) rfl rfl (m_MO_ends l G (moMade S n a b) 4 (nI (n + 1))) l_MO_101 im_MO_ends se_MO_ends in_MO c_MO_ends_in (by decide +kernel) ⟨by simp only [rmF]; omega, by simp only [rmF]; omega⟩ rfl hl.1 (Nat.le_of_ble_eq_true rfl) d_MO_raise_8 ⟨Nat.le_refl _, Nat.le_refl _⟩) (fun S_8 H locs hw hP hS => ?_)
  rw [hw] at hP
  exact e_v hx hb hr hlk hC hP hS d_MO_raise_11 rfl

