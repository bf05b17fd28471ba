/-! leaves of the class: written by wip/gen/p20.py -/
set_option maxHeartbeats 4000000 in
set_option maxRecDepth 100000 in
theorem m_LB_isBelow (l : Launch) (G : WG) (S : SS) (n b : Int32) : Ci l y_LB_isBelow b_LB_isBelow 2 (some (.boolean)) 0 G [.int n, .int b] S (fun r S1 => r = b2i (isB n b) ∧ S1 = S) := by
  refine mk l (by decide +kernel) (Nat.le_of_ble_eq_true rfl) ?_
  intro pp_ ee_ ss_ mm_ be_ me_ co_ ls hx hb hr hlk hml hC hP hS hl
  have hl : lv_has ls 2 [(0, .int n), (1, .int b)] := hl
  refine lv_iload_n hx hb d_LB_isBelow_0 rfl (lv_at hl 0 rfl) ?_
  refine lv_if_lt (tgt := 13) hx hb d_LB_isBelow_1 (by decide) (fun c_1 => ?_) (fun c_1 => ?_)
  · refine lv_iconst (v := 0) hx hb d_LB_isBelow_13 (by decide) ?_
    exact e_z hx hb hr hlk hC hP hS d_LB_isBelow_14 (by decide) ⟨by first | (rw [isB_1 c_1]; rfl) | (rw [isB_2 c_6]; rfl) | (rw [isB_3 c_1 c_6]; rfl), rfl⟩
  · refine lv_iload_n hx hb d_LB_isBelow_4 rfl (lv_at hl 0 rfl) ?_
    refine lv_iload_n hx hb d_LB_isBelow_5 rfl (lv_at hl 1 rfl) ?_
    refine lv_icmp_ge (tgt := 13) hx hb d_LB_isBelow_6 (by decide) (fun c_6 => ?_) (fun c_6 => ?_)
    · refine lv_iconst (v := 0) hx hb d_LB_isBelow_13 (by decide) ?_
      exact e_z hx hb hr hlk hC hP hS d_LB_isBelow_14 (by decide) ⟨by first | (rw [isB_1 c_1]; rfl) | (rw [isB_2 c_6]; rfl) | (rw [isB_3 c_1 c_6]; rfl), rfl⟩
    · refine lv_iconst (v := 1) hx hb d_LB_isBelow_9 (by decide) ?_
      refine lv_goto (tgt := 14) hx hb d_LB_isBelow_10 (by decide) ?_
      exact e_z hx hb hr hlk hC hP hS d_LB_isBelow_14 (by decide) ⟨by first | (rw [isB_1 c_1]; rfl) | (rw [isB_2 c_6]; rfl) | (rw [isB_3 c_1 c_6]; rfl), rfl⟩

set_option maxHeartbeats 4000000 in
set_option maxRecDepth 100000 in
theorem m_LB_isOfKind (l : Launch) (G : WG) (S : SS) (a b : Int32) : Ci l y_LB_isOfKind b_LB_isOfKind 2 (some (.boolean)) 0 G [.int a, .int b] S (fun r S1 => r = b2i (isK a b) ∧ S1 = S) := by
  refine mk l (by decide +kernel) (Nat.le_of_ble_eq_true rfl) ?_
  intro pp_ ee_ ss_ mm_ be_ me_ co_ ls hx hb hr hlk hml hC hP hS hl
  have hl : lv_has ls 2 [(0, .int a), (1, .int b)] := hl
  refine lv_iload_n hx hb d_LB_isOfKind_0 rfl (lv_at hl 1 rfl) ?_
  refine lv_if_eq (tgt := 30) hx hb d_LB_isOfKind_1 (by decide) (fun c_1 => ?_) (fun c_1 => ?_)
  · refine lv_iconst (v := 1) hx hb d_LB_isOfKind_30 (by decide) ?_
    refine lv_goto (tgt := 35) hx hb d_LB_isOfKind_31 (by decide) ?_
    exact e_z hx hb hr hlk hC hP hS d_LB_isOfKind_35 (by decide) ⟨by simp_all [isK, b2i], rfl⟩
  · refine lv_iload_n hx hb d_LB_isOfKind_4 rfl (lv_at hl 0 rfl) ?_
    refine lv_iload_n hx hb d_LB_isOfKind_5 rfl (lv_at hl 1 rfl) ?_
    refine lv_icmp_eq (tgt := 30) hx hb d_LB_isOfKind_6 (by decide) (fun c_6 => ?_) (fun c_6 => ?_)
    · refine lv_iconst (v := 1) hx hb d_LB_isOfKind_30 (by decide) ?_
      refine lv_goto (tgt := 35) hx hb d_LB_isOfKind_31 (by decide) ?_
      exact e_z hx hb hr hlk hC hP hS d_LB_isOfKind_35 (by decide) ⟨by simp_all [isK, b2i], rfl⟩
    · refine lv_iload_n hx hb d_LB_isOfKind_9 rfl (lv_at hl 0 rfl) ?_
      refine lv_iconst (v := 3) hx hb d_LB_isOfKind_10 (by decide) ?_
      refine lv_icmp_ne (tgt := 19) hx hb d_LB_isOfKind_11 (by decide) (fun c_11 => ?_) (fun c_11 => ?_)
      · refine lv_iload_n hx hb d_LB_isOfKind_19 rfl (lv_at hl 0 rfl) ?_
        refine lv_bipush (v := 6) hx hb d_LB_isOfKind_20 (by decide) ?_
        refine lv_icmp_ne (tgt := 34) hx hb d_LB_isOfKind_22 (by decide) (fun c_22 => ?_) (fun c_22 => ?_)
        · refine lv_iconst (v := 0) hx hb d_LB_isOfKind_34 (by decide) ?_
          exact e_z hx hb hr hlk hC hP hS d_LB_isOfKind_35 (by decide) ⟨by simp_all [isK, b2i], rfl⟩
        · refine lv_iload_n hx hb d_LB_isOfKind_25 rfl (lv_at hl 1 rfl) ?_
          refine lv_iconst (v := 2) hx hb d_LB_isOfKind_26 (by decide) ?_
          refine lv_icmp_ne (tgt := 34) hx hb d_LB_isOfKind_27 (by decide) (fun c_27 => ?_) (fun c_27 => ?_)
          · refine lv_iconst (v := 0) hx hb d_LB_isOfKind_34 (by decide) ?_
            exact e_z hx hb hr hlk hC hP hS d_LB_isOfKind_35 (by decide) ⟨by simp_all [isK, b2i], rfl⟩
          · refine lv_iconst (v := 1) hx hb d_LB_isOfKind_30 (by decide) ?_
            refine lv_goto (tgt := 35) hx hb d_LB_isOfKind_31 (by decide) ?_
            exact e_z hx hb hr hlk hC hP hS d_LB_isOfKind_35 (by decide) ⟨by simp_all [isK, b2i], rfl⟩
      · refine lv_iload_n hx hb d_LB_isOfKind_14 rfl (lv_at hl 1 rfl) ?_
        refine lv_iconst (v := 1) hx hb d_LB_isOfKind_15 (by decide) ?_
        refine lv_icmp_eq (tgt := 30) hx hb d_LB_isOfKind_16 (by decide) (fun c_16 => ?_) (fun c_16 => ?_)
        · refine lv_iconst (v := 1) hx hb d_LB_isOfKind_30 (by decide) ?_
          refine lv_goto (tgt := 35) hx hb d_LB_isOfKind_31 (by decide) ?_
          exact e_z hx hb hr hlk hC hP hS d_LB_isOfKind_35 (by decide) ⟨by simp_all [isK, b2i], rfl⟩
        · refine lv_iload_n hx hb d_LB_isOfKind_19 rfl (lv_at hl 0 rfl) ?_
          refine lv_bipush (v := 6) hx hb d_LB_isOfKind_20 (by decide) ?_
          refine lv_icmp_ne (tgt := 34) hx hb d_LB_isOfKind_22 (by decide) (fun c_22 => ?_) (fun c_22 => ?_)
          · refine lv_iconst (v := 0) hx hb d_LB_isOfKind_34 (by decide) ?_
            exact e_z hx hb hr hlk hC hP hS d_LB_isOfKind_35 (by decide) ⟨by simp_all [isK, b2i], rfl⟩
          · refine lv_iload_n hx hb d_LB_isOfKind_25 rfl (lv_at hl 1 rfl) ?_
            refine lv_iconst (v := 2) hx hb d_LB_isOfKind_26 (by decide) ?_
            refine lv_icmp_ne (tgt := 34) hx hb d_LB_isOfKind_27 (by decide) (fun c_27 => ?_) (fun c_27 => ?_)
            · refine lv_iconst (v := 0) hx hb d_LB_isOfKind_34 (by decide) ?_
              exact e_z hx hb hr hlk hC hP hS d_LB_isOfKind_35 (by decide) ⟨by simp_all [isK, b2i], rfl⟩
            · refine lv_iconst (v := 1) hx hb d_LB_isOfKind_30 (by decide) ?_
              refine lv_goto (tgt := 35) hx hb d_LB_isOfKind_31 (by decide) ?_
              exact e_z hx hb hr hlk hC hP hS d_LB_isOfKind_35 (by decide) ⟨by simp_all [isK, b2i], rfl⟩

def tApp (S : SS) (p n : Nat) (o a : Int32) : SS := su (su (su S (12 + 4 * p) n o) (13 + 4 * p) n a) (11 + 4 * p) 3 (nI (n + 1))
set_option maxHeartbeats 4000000 in
set_option maxRecDepth 100000 in
theorem m_TE_append (l : Launch) (G : WG) (S : SS) (p n : Nat) (hp : p < 4) (hn : n ≤ 32) (hs : S (11 + 4 * p) 3 = nI n) (o a : Int32) : Ci l y_TE_append b_TE_append 3 (some (.boolean)) 0 G [.ref (gA G (11 + 4 * p)), .int o, .int a] S (fun r S1 => r = b2i (decide (n < 32)) ∧ S1 = if n < 32 then tApp S p n o a else S) := by
  refine mk l (by decide +kernel) (Nat.le_of_ble_eq_true rfl) ?_
  intro pp_ ee_ ss_ mm_ be_ me_ co_ ls hx hb hr hlk hml hC hP hS hl
  have hl : lv_has ls 3 [(0, .ref (gA G (11 + 4 * p))), (1, .int o), (2, .int a)] := hl
  refine lv_aload_n hx hb d_TE_append_0 rfl (lv_at hl 0 rfl) ?_
  refine r_get hx hb hC hP i_TE (11 + 4 * p) (by omega) (sh_T G _ hp) rfl 3 (by decide) l_TE_21 rfl d_TE_append_1 ?_
  rw [show S (11 + 4 * p) 3 = nI n from hs]
  refine lv_bipush (v := 32) hx hb d_TE_append_4 (by decide) ?_
  refine lv_icmp_lt (tgt := 11) hx hb d_TE_append_6 (by decide) (fun c_6 => ?_) (fun c_6 => ?_)
  · have c_6 : n < 32 := (q_lt (a := n) (b := 32) rfl rfl (by omega) (by omega)).mp c_6
    refine lv_aload_n hx hb d_TE_append_11 rfl (lv_at hl 0 rfl) ?_
    refine r_get hx hb hC hP i_TE (11 + 4 * p) (by omega) (sh_T G _ hp) rfl 0 (by decide) l_TE_9 rfl d_TE_append_12 ?_
    refine lv_aload_n hx hb d_TE_append_15 rfl (lv_at hl 0 rfl) ?_
    refine r_get hx hb hC hP i_TE (11 + 4 * p) (by omega) (sh_T G _ hp) rfl 3 (by decide) l_TE_21 rfl d_TE_append_16 ?_
    rw [show S (11 + 4 * p) 3 = nI n from hs]
    refine lv_iload_n hx hb d_TE_append_19 rfl (lv_at hl 1 rfl) ?_
    refine r_ist hx hb hC hP hS (12 + 4 * p) (by omega) (fun r => sh_T1 G r hp) n rfl (by omega) (by decide) d_TE_append_20 (fun H locs hP hS => ?_)
    refine lv_aload_n hx hb d_TE_append_21 rfl (lv_at hl 0 rfl) ?_
    refine r_get hx hb hC hP i_TE (11 + 4 * p) (by omega) (sh_T G _ hp) rfl 1 (by decide) l_TE_15 rfl d_TE_append_22 ?_
    refine lv_aload_n hx hb d_TE_append_25 rfl (lv_at hl 0 rfl) ?_
    refine r_get hx hb hC hP i_TE (11 + 4 * p) (by omega) (sh_T G _ hp) rfl 3 (by decide) l_TE_21 rfl d_TE_append_26 ?_
    rw [show (su S (12 + 4 * p) n o) (11 + 4 * p) 3 = S (11 + 4 * p) 3 from by rw [su_cell _ _ _ (by omega)]]
    rw [show S (11 + 4 * p) 3 = nI n from hs]
    refine lv_iload_n hx hb d_TE_append_29 rfl (lv_at hl 2 rfl) ?_
    refine r_ist hx hb hC hP hS (13 + 4 * p) (by omega) (fun r => sh_T2 G r hp) n rfl (by omega) (by decide) d_TE_append_30 (fun H locs hP hS => ?_)
    refine lv_aload_n hx hb d_TE_append_31 rfl (lv_at hl 0 rfl) ?_
    refine lv_dup hx hb d_TE_append_32 rfl ?_
    refine r_get hx hb hC hP i_TE (11 + 4 * p) (by omega) (sh_T G _ hp) rfl 3 (by decide) l_TE_21 rfl d_TE_append_33 ?_
    rw [show (su (su S (12 + 4 * p) n o) (13 + 4 * p) n a) (11 + 4 * p) 3 = S (11 + 4 * p) 3 from by rw [su_cell _ _ _ (by omega), su_cell _ _ _ (by omega)]]
    rw [show S (11 + 4 * p) 3 = nI n from hs]
    refine lv_iconst (v := 1) hx hb d_TE_append_36 (by decide) ?_
    refine lv_iadd hx hb d_TE_append_37 ?_
    rw [show (nI n) + 1 = nI (n + 1) from nI_1 n]
    refine r_put hx hb hC hP hS i_TE t_TE t_TE_ok n_TE (11 + 4 * p) (by omega) (sh_T G _ hp) rfl 3 (by decide) l_TE_21 rfl rfl (by rw [sh_T G _ hp]; rfl) (Nat.le_of_ble_eq_true rfl) d_TE_append_38 (fun H locs hP hS => ?_)
    refine lv_iconst (v := 1) hx hb d_TE_append_41 (by decide) ?_
    exact e_z hx hb hr hlk hC hP hS d_TE_append_42 (by decide) ⟨by rw [decide_eq_true (by omega)]; rfl, (if_pos (by omega)).symm⟩
  · have c_6 : ¬ n < 32 := fun h => c_6 ((q_lt (a := n) (b := 32) rfl rfl (by omega) (by omega)).mpr h)
    refine lv_iconst (v := 0) hx hb d_TE_append_9 (by decide) ?_
    exact e_z hx hb hr hlk hC hP hS d_TE_append_10 (by decide) ⟨by rw [decide_eq_false (by omega)]; rfl, (if_neg (by omega)).symm⟩

set_option maxHeartbeats 4000000 in
set_option maxRecDepth 100000 in
theorem m_TE_clear (l : Launch) (G : WG) (S : SS) (p : Nat) (hp : p < 4) : Ci l y_TE_clear b_TE_clear 2 (some (.int)) 0 G [.ref (gA G (11 + 4 * p))] S (fun r S1 => r = S (11 + 4 * p) 3 ∧ S1 = su S (11 + 4 * p) 3 0) := by
  refine mk l (by decide +kernel) (Nat.le_of_ble_eq_true rfl) ?_
  intro pp_ ee_ ss_ mm_ be_ me_ co_ ls hx hb hr hlk hml hC hP hS hl
  have hl : lv_has ls 2 [(0, .ref (gA G (11 + 4 * p)))] := hl
  refine lv_aload_n hx hb d_TE_clear_0 rfl (lv_at hl 0 rfl) ?_
  refine r_get hx hb hC hP i_TE (11 + 4 * p) (by omega) (sh_T G _ hp) rfl 3 (by decide) l_TE_21 rfl d_TE_clear_1 ?_
  refine lv_istore_n (lv' := [(1, .int (S (11 + 4 * p) 3)), (0, .ref (gA G (11 + 4 * p)))]) hx hb d_TE_clear_4 rfl hl (by decide) rfl (fun ls hl => ?_)
  refine lv_aload_n hx hb d_TE_clear_5 rfl (lv_at hl 1 rfl) ?_
  refine lv_iconst (v := 0) hx hb d_TE_clear_6 (by decide) ?_
  refine r_put hx hb hC hP hS i_TE t_TE t_TE_ok n_TE (11 + 4 * p) (by omega) (sh_T G _ hp) rfl 3 (by decide) l_TE_21 rfl rfl (by rw [sh_T G _ hp]; rfl) (Nat.le_of_ble_eq_true rfl) d_TE_clear_7 (fun H locs hP hS => ?_)
  refine lv_iload_n hx hb d_TE_clear_10 rfl (lv_at hl 0 rfl) ?_
  exact e_i hx hb hr hlk hC hP hS d_TE_clear_11 ⟨rfl, rfl⟩

def tCat (S : SS) (p i : Nat) : Int32 := if S (12 + 4 * p) i = 9 then S (13 + 4 * p) i &&& 3 else 0
def tLast (S : SS) (p i : Nat) : Bool := decide (S (12 + 4 * p) i = 9) && decide (¬ S (13 + 4 * p) i &&& 4 = 0)
set_option maxHeartbeats 4000000 in
set_option maxRecDepth 100000 in
theorem m_TE_catchesOf (l : Launch) (G : WG) (S : SS) (p i : Nat) (hp : p < 4) (hi : i < 32) : Ci l y_TE_catchesOf b_TE_catchesOf 2 (some (.int)) 0 G [.ref (gA G (11 + 4 * p)), .int (nI i)] S (fun r S1 => r = tCat S p i ∧ S1 = S) := by
  refine mk l (by decide +kernel) (Nat.le_of_ble_eq_true rfl) ?_
  intro pp_ ee_ ss_ mm_ be_ me_ co_ ls hx hb hr hlk hml hC hP hS hl
  have hl : lv_has ls 2 [(0, .ref (gA G (11 + 4 * p))), (1, .int (nI i))] := hl
  refine lv_aload_n hx hb d_TE_catchesOf_0 rfl (lv_at hl 0 rfl) ?_
  refine r_get hx hb hC hP i_TE (11 + 4 * p) (by omega) (sh_T G _ hp) rfl 0 (by decide) l_TE_9 rfl d_TE_catchesOf_1 ?_
  refine lv_iload_n hx hb d_TE_catchesOf_4 rfl (lv_at hl 1 rfl) ?_
  refine r_ild hx hb hC hP (12 + 4 * p) (by omega) (sh_T1 G _ hp) i rfl (by omega) (by decide) d_TE_catchesOf_5 ?_
  refine lv_bipush (v := 9) hx hb d_TE_catchesOf_6 (by decide) ?_
  refine lv_icmp_ne (tgt := 22) hx hb d_TE_catchesOf_8 (by decide) (fun c_8 => ?_) (fun c_8 => ?_)
  · refine lv_iconst (v := 0) hx hb d_TE_catchesOf_22 (by decide) ?_
    exact e_i hx hb hr hlk hC hP hS d_TE_catchesOf_23 ⟨by simp_all [tCat], rfl⟩
  · refine lv_aload_n hx hb d_TE_catchesOf_11 rfl (lv_at hl 0 rfl) ?_
    refine r_get hx hb hC hP i_TE (11 + 4 * p) (by omega) (sh_T G _ hp) rfl 1 (by decide) l_TE_15 rfl d_TE_catchesOf_12 ?_
    refine lv_iload_n hx hb d_TE_catchesOf_15 rfl (lv_at hl 1 rfl) ?_
    refine r_ild hx hb hC hP (13 + 4 * p) (by omega) (sh_T2 G _ hp) i rfl (by omega) (by decide) d_TE_catchesOf_16 ?_
    refine lv_iconst (v := 3) hx hb d_TE_catchesOf_17 (by decide) ?_
    refine lv_iand hx hb d_TE_catchesOf_18 ?_
    refine lv_goto (tgt := 23) hx hb d_TE_catchesOf_19 (by decide) ?_
    exact e_i hx hb hr hlk hC hP hS d_TE_catchesOf_23 ⟨by simp_all [tCat], rfl⟩

set_option maxHeartbeats 4000000 in
set_option maxRecDepth 100000 in
theorem m_TE_hasLast (l : Launch) (G : WG) (S : SS) (p i : Nat) (hp : p < 4) (hi : i < 32) : Ci l y_TE_hasLast b_TE_hasLast 2 (some (.boolean)) 0 G [.ref (gA G (11 + 4 * p)), .int (nI i)] S (fun r S1 => r = b2i (tLast S p i) ∧ S1 = S) := by
  refine mk l (by decide +kernel) (Nat.le_of_ble_eq_true rfl) ?_
  intro pp_ ee_ ss_ mm_ be_ me_ co_ ls hx hb hr hlk hml hC hP hS hl
  have hl : lv_has ls 2 [(0, .ref (gA G (11 + 4 * p))), (1, .int (nI i))] := hl
  refine lv_aload_n hx hb d_TE_hasLast_0 rfl (lv_at hl 0 rfl) ?_
  refine r_get hx hb hC hP i_TE (11 + 4 * p) (by omega) (sh_T G _ hp) rfl 0 (by decide) l_TE_9 rfl d_TE_hasLast_1 ?_
  refine lv_iload_n hx hb d_TE_hasLast_4 rfl (lv_at hl 1 rfl) ?_
  refine r_ild hx hb hC hP (12 + 4 * p) (by omega) (sh_T1 G _ hp) i rfl (by omega) (by decide) d_TE_hasLast_5 ?_
  refine lv_bipush (v := 9) hx hb d_TE_hasLast_6 (by decide) ?_
  refine lv_icmp_ne (tgt := 26) hx hb d_TE_hasLast_8 (by decide) (fun c_8 => ?_) (fun c_8 => ?_)
  · refine lv_iconst (v := 0) hx hb d_TE_hasLast_26 (by decide) ?_
    exact e_z hx hb hr hlk hC hP hS d_TE_hasLast_27 (by decide) ⟨by simp_all [tLast, b2i], rfl⟩
  · refine lv_aload_n hx hb d_TE_hasLast_11 rfl (lv_at hl 0 rfl) ?_
    refine r_get hx hb hC hP i_TE (11 + 4 * p) (by omega) (sh_T G _ hp) rfl 1 (by decide) l_TE_15 rfl d_TE_hasLast_12 ?_
    refine lv_iload_n hx hb d_TE_hasLast_15 rfl (lv_at hl 1 rfl) ?_
    refine r_ild hx hb hC hP (13 + 4 * p) (by omega) (sh_T2 G _ hp) i rfl (by omega) (by decide) d_TE_hasLast_16 ?_
    refine lv_iconst (v := 4) hx hb d_TE_hasLast_17 (by decide) ?_
    refine lv_iand hx hb d_TE_hasLast_18 ?_
    refine lv_if_eq (tgt := 26) hx hb d_TE_hasLast_19 (by decide) (fun c_19 => ?_) (fun c_19 => ?_)
    · refine lv_iconst (v := 0) hx hb d_TE_hasLast_26 (by decide) ?_
      exact e_z hx hb hr hlk hC hP hS d_TE_hasLast_27 (by decide) ⟨by simp_all [tLast, b2i], rfl⟩
    · refine lv_iconst (v := 1) hx hb d_TE_hasLast_22 (by decide) ?_
      refine lv_goto (tgt := 27) hx hb d_TE_hasLast_23 (by decide) ?_
      exact e_z hx hb hr hlk hC hP hS d_TE_hasLast_27 (by decide) ⟨by simp_all [tLast, b2i], rfl⟩

set_option maxHeartbeats 4000000 in
set_option maxRecDepth 100000 in
theorem m_FA_forget (l : Launch) (G : WG) (S : SS)  : Cv l y_FA_forget b_FA_forget 1 0 G [.ref (gA G 4)] S (fun S1 => S1 = su S 4 2 0) := by
  refine mk l (by decide +kernel) (Nat.le_of_ble_eq_true rfl) ?_
  intro pp_ ee_ ss_ mm_ be_ me_ co_ ls hx hb hr hlk hml hC hP hS hl
  have hl : lv_has ls 1 [(0, .ref (gA G 4))] := hl
  refine lv_aload_n hx hb d_FA_forget_0 rfl (lv_at hl 0 rfl) ?_
  refine lv_iconst (v := 0) hx hb d_FA_forget_1 (by decide) ?_
  refine r_put hx hb hC hP hS i_FA t_FA t_FA_ok n_FA (4) (by decide) rfl rfl 2 (by decide) l_FA_18 rfl rfl rfl (Nat.le_of_ble_eq_true rfl) d_FA_forget_2 (fun H locs hP hS => ?_)
  exact e_v hx hb hr hlk hC hP hS d_FA_forget_5 rfl

def fMk (S : SS) (n : Nat) (k c : Int32) : SS := su (su (su S 5 n k) 6 n c) 4 2 (nI (n + 1))
set_option maxHeartbeats 4000000 in
set_option maxRecDepth 100000 in
theorem m_FA_make (l : Launch) (G : WG) (S : SS) (n : Nat) (hn : n < 301) (hs : S 4 2 = nI n) (a b : Int32) : Ci l y_FA_make b_FA_make 3 (some (.int)) 0 G [.ref (gA G 4), .int a, .int b] S (fun r S1 => r = nI n ∧ S1 = fMk S n a b) := by
  refine mk l (by decide +kernel) (Nat.le_of_ble_eq_true rfl) ?_
  intro pp_ ee_ ss_ mm_ be_ me_ co_ ls hx hb hr hlk hml hC hP hS hl
  have hl : lv_has ls 3 [(0, .ref (gA G 4)), (1, .int a), (2, .int b)] := hl
  refine lv_aload_n hx hb d_FA_make_0 rfl (lv_at hl 0 rfl) ?_
  refine r_get hx hb hC hP i_FA (4) (by decide) rfl rfl 2 (by decide) l_FA_18 rfl d_FA_make_1 ?_
  rw [show S 4 2 = nI n from hs]
  refine lv_sipush (v := 301) hx hb d_FA_make_4 (by decide) ?_
  refine lv_icmp_lt (tgt := 12) hx hb d_FA_make_7 (by decide) (fun c_7 => ?_) (fun c_7 => ?_)
  · have c_7 : n < 301 := (q_lt (a := n) (b := 301) rfl rfl (by omega) (by omega)).mp c_7
    refine lv_aload_n hx hb d_FA_make_12 rfl (lv_at hl 0 rfl) ?_
    refine r_get hx hb hC hP i_FA (4) (by decide) rfl rfl 0 (by decide) l_FA_9 rfl d_FA_make_13 ?_
    refine lv_aload_n hx hb d_FA_make_16 rfl (lv_at hl 0 rfl) ?_
    refine r_get hx hb hC hP i_FA (4) (by decide) rfl rfl 2 (by decide) l_FA_18 rfl d_FA_make_17 ?_
    rw [show S 4 2 = nI n from hs]
    refine lv_iload_n hx hb d_FA_make_20 rfl (lv_at hl 1 rfl) ?_
    refine r_ist hx hb hC hP hS (5) (by decide) (fun _ => rfl) n rfl (by omega) (by decide) d_FA_make_21 (fun H locs hP hS => ?_)
    refine lv_aload_n hx hb d_FA_make_22 rfl (lv_at hl 0 rfl) ?_
    refine r_get hx hb hC hP i_FA (4) (by decide) rfl rfl 1 (by decide) l_FA_15 rfl d_FA_make_23 ?_
    refine lv_aload_n hx hb d_FA_make_26 rfl (lv_at hl 0 rfl) ?_
    refine r_get hx hb hC hP i_FA (4) (by decide) rfl rfl 2 (by decide) l_FA_18 rfl d_FA_make_27 ?_
    rw [show (su S 5 n a) 4 2 = S 4 2 from by rw [su_cell _ _ _ (by decide)]]
    rw [show S 4 2 = nI n from hs]
    refine lv_iload_n hx hb d_FA_make_30 rfl (lv_at hl 2 rfl) ?_
    refine r_ist hx hb hC hP hS (6) (by decide) (fun _ => rfl) n rfl (by omega) (by decide) d_FA_make_31 (fun H locs hP hS => ?_)
    refine lv_aload_n hx hb d_FA_make_32 rfl (lv_at hl 0 rfl) ?_
    refine lv_dup hx hb d_FA_make_33 rfl ?_
    refine r_get hx hb hC hP i_FA (4) (by decide) rfl rfl 2 (by decide) l_FA_18 rfl d_FA_make_34 ?_
    rw [show (su (su S 5 n a) 6 n b) 4 2 = S 4 2 from by rw [su_cell _ _ _ (by decide), su_cell _ _ _ (by decide)]]
    rw [show S 4 2 = nI n from hs]
    refine lv_iconst (v := 1) hx hb d_FA_make_37 (by decide) ?_
    refine lv_iadd hx hb d_FA_make_38 ?_
    rw [show (nI n) + 1 = nI (n + 1) from nI_1 n]
    refine r_put hx hb hC hP hS i_FA t_FA t_FA_ok n_FA (4) (by decide) rfl rfl 2 (by decide) l_FA_18 rfl rfl rfl (Nat.le_of_ble_eq_true rfl) d_FA_make_39 (fun H locs hP hS => ?_)
    refine lv_aload_n hx hb d_FA_make_42 rfl (lv_at hl 0 rfl) ?_
    refine r_get hx hb hC hP i_FA (4) (by decide) rfl rfl 2 (by decide) l_FA_18 rfl d_FA_make_43 ?_
    rw [show (su (su (su S 5 n a) 6 n b) 4 2 (nI (n + 1))) 4 2 = nI (n + 1) from by rw [su_same]]
    refine lv_iconst (v := 1) hx hb d_FA_make_46 (by decide) ?_
    refine lv_isub hx hb d_FA_make_47 ?_
    exact e_i hx hb hr hlk hC hP hS d_FA_make_48 ⟨nI_pred n, rfl⟩
  · have c_7 : ¬ n < 301 := fun h => c_7 ((q_lt (a := n) (b := 301) rfl rfl (by omega) (by omega)).mpr h)
    refine lv_iconst (v := (-1)) hx hb d_FA_make_10 (by decide) ?_
    exact e_i hx hb hr hlk hC hP hS d_FA_make_11 (by exfalso; omega)

def fKind (S : SS) (i : Int32) (n : Nat) : Int32 := if isB i (nI n) = true then S 5 i.toNatClampNeg else -1
set_option maxHeartbeats 4000000 in
set_option maxRecDepth 100000 in
theorem m_FA_kindOf (l : Launch) (G : WG) (S : SS) (n : Nat) (hn : n ≤ 301) (hs : S 4 2 = nI n) (i : Int32) : Ci l y_FA_kindOf b_FA_kindOf 2 (some (.int)) 1 G [.ref (gA G 4), .int i] S (fun r S1 => r = fKind S i n ∧ S1 = S) := by
  refine mk l (by decide +kernel) (Nat.le_of_ble_eq_true rfl) ?_
  intro pp_ ee_ ss_ mm_ be_ me_ co_ ls hx hb hr hlk hml hC hP hS hl
  have hl : lv_has ls 2 [(0, .ref (gA G 4)), (1, .int i)] := hl
  refine lv_iload_n hx hb d_FA_kindOf_0 rfl (lv_at hl 1 rfl) ?_
  refine lv_aload_n hx hb d_FA_kindOf_1 rfl (lv_at hl 0 rfl) ?_
  refine r_get hx hb hC hP i_FA (4) (by decide) rfl rfl 2 (by decide) l_FA_18 rfl d_FA_kindOf_2 ?_
  rw [show S 4 2 = nI n from hs]
  refine r_i hC hS (r_runSN (np := 2) (As := [.int i, .int (nI n)]) (rest := []) hx hb hml hC hP hS (m_LB_isBelow l G S i (nI n)) k_FA_22 st_LB_isBelow in_LB c_LB_isBelow_in (by decide +kernel) ⟨by simp only [rmF]; omega, by simp only [rmF]; omega⟩ rfl hl.1 (Nat.le_of_ble_eq_true rfl) d_FA_kindOf_5 ⟨Nat.le_refl _, Nat.le_refl _⟩) (fun r_5 S_5 H locs hw hP hS => ?_)
  obtain ⟨rfl, hSe⟩ := hw
  rw [hSe] at hP
  refine lv_if_eq (tgt := 20) hx hb d_FA_kindOf_8 (by decide) (fun c_8 => ?_) (fun c_8 => ?_)
  · have c_8 := b2i_f c_8
    refine lv_iconst (v := (-1)) hx hb d_FA_kindOf_20 (by decide) ?_
    exact e_i hx hb hr hlk hC hP hS d_FA_kindOf_21 ⟨by rw [fKind, if_neg (by simp_all)], rfl⟩
  · have c_8 := b2i_t c_8
    obtain ⟨j, hjn, hj⟩ := isB_nI (by omega) c_8
    refine lv_aload_n hx hb d_FA_kindOf_11 rfl (lv_at hl 0 rfl) ?_
    refine r_get hx hb hC hP i_FA (4) (by decide) rfl rfl 0 (by decide) l_FA_9 rfl d_FA_kindOf_12 ?_
    refine lv_iload_n hx hb d_FA_kindOf_15 rfl (lv_at hl 1 rfl) ?_
    refine r_ild hx hb hC hP (5) (by decide) rfl j hj (by omega) (by decide) d_FA_kindOf_16 ?_
    refine lv_goto (tgt := 21) hx hb d_FA_kindOf_17 (by decide) ?_
    exact e_i hx hb hr hlk hC hP hS d_FA_kindOf_21 ⟨by rw [fKind, if_pos (by assumption), hj, nI_clamp (by omega)], rfl⟩

def lFree (S : SS) : SS := su (su (su (su (su S 8 0 0) 8 1 0) 8 2 0) 7 1 0) 7 2 0
set_option maxHeartbeats 4000000 in
set_option maxRecDepth 100000 in
theorem m_LO_free (l : Launch) (G : WG) (S : SS)  : Cv l y_LO_free b_LO_free 2 0 G [.ref (gA G 7)] S (fun S1 => S1 = lFree S) := by
  refine mk l (by decide +kernel) (Nat.le_of_ble_eq_true rfl) ?_
  intro pp_ ee_ ss_ mm_ be_ me_ co_ ls hx hb hr hlk hml hC hP hS hl
  have hl : lv_has ls 2 [(0, .ref (gA G 7))] := hl
  refine lv_iconst (v := 0) hx hb d_LO_free_0 (by decide) ?_
  refine lv_istore_n (lv' := [(1, .int 0), (0, .ref (gA G 7))]) hx hb d_LO_free_1 rfl hl (by decide) rfl (fun ls hl => ?_)
  refine lv_iload_n hx hb d_LO_free_2 rfl (lv_at hl 0 rfl) ?_
  refine lv_iconst (v := 3) hx hb d_LO_free_3 (by decide) ?_
  refine lv_icmp_ge (tgt := 20) hx hb d_LO_free_4 (by decide) (fun h => absurd h (by decide)) (fun _ => ?_)
  refine lv_aload_n hx hb d_LO_free_7 rfl (lv_at hl 1 rfl) ?_
  refine r_get hx hb hC hP i_LO (7) (by decide) rfl rfl 0 (by decide) l_LO_9 rfl d_LO_free_8 ?_
  refine lv_iload_n hx hb d_LO_free_11 rfl (lv_at hl 0 rfl) ?_
  refine lv_iconst (v := 0) hx hb d_LO_free_12 (by decide) ?_
  refine r_ist hx hb hC hP hS (8) (by decide) (fun _ => rfl) 0 rfl (by decide) (by decide) d_LO_free_13 (fun H locs hP hS => ?_)
  refine lv_iinc (v := 1) (lv' := [(1, .int 1), (0, .ref (gA G 7))]) hx hb d_LO_free_14 hl (k := 0) rfl (by decide) (by decide) rfl (fun ls hl => ?_)
  refine lv_goto (tgt := 2) hx hb d_LO_free_17 (by decide) ?_
  refine lv_iload_n hx hb d_LO_free_2 rfl (lv_at hl 0 rfl) ?_
  refine lv_iconst (v := 3) hx hb d_LO_free_3 (by decide) ?_
  refine lv_icmp_ge (tgt := 20) hx hb d_LO_free_4 (by decide) (fun h => absurd h (by decide)) (fun _ => ?_)
  refine lv_aload_n hx hb d_LO_free_7 rfl (lv_at hl 1 rfl) ?_
  refine r_get hx hb hC hP i_LO (7) (by decide) rfl rfl 0 (by decide) l_LO_9 rfl d_LO_free_8 ?_
  refine lv_iload_n hx hb d_LO_free_11 rfl (lv_at hl 0 rfl) ?_
  refine lv_iconst (v := 0) hx hb d_LO_free_12 (by decide) ?_
  refine r_ist hx hb hC hP hS (8) (by decide) (fun _ => rfl) 1 rfl (by decide) (by decide) d_LO_free_13 (fun H locs hP hS => ?_)
  refine lv_iinc (v := 2) (lv' := [(1, .int 2), (0, .ref (gA G 7))]) hx hb d_LO_free_14 hl (k := 0) rfl (by decide) (by decide) rfl (fun ls hl => ?_)
  refine lv_goto (tgt := 2) hx hb d_LO_free_17 (by decide) ?_
  refine lv_iload_n hx hb d_LO_free_2 rfl (lv_at hl 0 rfl) ?_
  refine lv_iconst (v := 3) hx hb d_LO_free_3 (by decide) ?_
  refine lv_icmp_ge (tgt := 20) hx hb d_LO_free_4 (by decide) (fun h => absurd h (by decide)) (fun _ => ?_)
  refine lv_aload_n hx hb d_LO_free_7 rfl (lv_at hl 1 rfl) ?_
  refine r_get hx hb hC hP i_LO (7) (by decide) rfl rfl 0 (by decide) l_LO_9 rfl d_LO_free_8 ?_
  refine lv_iload_n hx hb d_LO_free_11 rfl (lv_at hl 0 rfl) ?_
  refine lv_iconst (v := 0) hx hb d_LO_free_12 (by decide) ?_
  refine r_ist hx hb hC hP hS (8) (by decide) (fun _ => rfl) 2 rfl (by decide) (by decide) d_LO_free_13 (fun H locs hP hS => ?_)
  refine lv_iinc (v := 3) (lv' := [(1, .int 3), (0, .ref (gA G 7))]) hx hb d_LO_free_14 hl (k := 0) rfl (by decide) (by decide) rfl (fun ls hl => ?_)
  refine lv_goto (tgt := 2) hx hb d_LO_free_17 (by decide) ?_
  refine lv_iload_n hx hb d_LO_free_2 rfl (lv_at hl 0 rfl) ?_
  refine lv_iconst (v := 3) hx hb d_LO_free_3 (by decide) ?_
  refine lv_icmp_ge (tgt := 20) hx hb d_LO_free_4 (by decide) (fun _ => ?_) (fun h => absurd h (by decide))
  refine lv_aload_n hx hb d_LO_free_20 rfl (lv_at hl 1 rfl) ?_
  refine lv_iconst (v := 0) hx hb d_LO_free_21 (by decide) ?_
  refine r_put hx hb hC hP hS i_LO t_LO t_LO_ok n_LO (7) (by decide) rfl rfl 1 (by decide) l_LO_15 rfl rfl rfl (Nat.le_of_ble_eq_true rfl) d_LO_free_22 (fun H locs hP hS => ?_)
  refine lv_aload_n hx hb d_LO_free_25 rfl (lv_at hl 1 rfl) ?_
  refine lv_iconst (v := 0) hx hb d_LO_free_26 (by decide) ?_
  refine r_put hx hb hC hP hS i_LO t_LO t_LO_ok n_LO (7) (by decide) rfl rfl 2 (by decide) l_LO_19 rfl rfl rfl (Nat.le_of_ble_eq_true rfl) d_LO_free_27 (fun H locs hP hS => ?_)
  exact e_v hx hb hr hlk hC hP hS d_LO_free_30 rfl

def lHold (S : SS) (i : Nat) : SS := su (su (su S 8 i (S 8 i + 1)) 7 1 (S 7 1 + 1)) 7 2 (if S 7 2 < S 7 1 + 1 then S 7 1 + 1 else S 7 2)
def lRel (S : SS) (i : Nat) (n : Int32) : SS := su (su S 8 i (S 8 i - n)) 7 1 (S 7 1 - n)
set_option maxHeartbeats 4000000 in
set_option maxRecDepth 100000 in
theorem m_LO_hold (l : Launch) (G : WG) (S : SS) (i : Nat) (hi : i < 3) : Cv l y_LO_hold b_LO_hold 2 1 G [.ref (gA G 7), .int (nI i)] S (fun S1 => S1 = lHold S i) := by
  refine mk l (by decide +kernel) (Nat.le_of_ble_eq_true rfl) ?_
  intro pp_ ee_ ss_ mm_ be_ me_ co_ ls hx hb hr hlk hml hC hP hS hl
  have hl : lv_has ls 2 [(0, .ref (gA G 7)), (1, .int (nI i))] := hl
  refine lv_aload_n hx hb d_LO_hold_0 rfl (lv_at hl 0 rfl) ?_
  refine r_get hx hb hC hP i_LO (7) (by decide) rfl rfl 0 (by decide) l_LO_9 rfl d_LO_hold_1 ?_
  refine lv_iload_n hx hb d_LO_hold_4 rfl (lv_at hl 1 rfl) ?_
  refine lv_dup2_11 hx hb d_LO_hold_5 rfl rfl ?_
  refine r_ild hx hb hC hP (8) (by decide) rfl i rfl (by omega) (by decide) d_LO_hold_6 ?_
  refine lv_iconst (v := 1) hx hb d_LO_hold_7 (by decide) ?_
  refine lv_iadd hx hb d_LO_hold_8 ?_
  refine r_ist hx hb hC hP hS (8) (by decide) (fun _ => rfl) i rfl (by omega) (by decide) d_LO_hold_9 (fun H locs hP hS => ?_)
  refine lv_aload_n hx hb d_LO_hold_10 rfl (lv_at hl 0 rfl) ?_
  refine lv_dup hx hb d_LO_hold_11 rfl ?_
  refine r_get hx hb hC hP i_LO (7) (by decide) rfl rfl 1 (by decide) l_LO_15 rfl d_LO_hold_12 ?_
  rw [show (su S 8 i ((S 8 i) + 1)) 7 1 = S 7 1 from by rw [su_cell _ _ _ (by decide)]]
  refine lv_iconst (v := 1) hx hb d_LO_hold_15 (by decide) ?_
  refine lv_iadd hx hb d_LO_hold_16 ?_
  refine r_put hx hb hC hP hS i_LO t_LO t_LO_ok n_LO (7) (by decide) rfl rfl 1 (by decide) l_LO_15 rfl rfl rfl (Nat.le_of_ble_eq_true rfl) d_LO_hold_17 (fun H locs hP hS => ?_)
  refine lv_aload_n hx hb d_LO_hold_20 rfl (lv_at hl 0 rfl) ?_
  refine lv_aload_n hx hb d_LO_hold_21 rfl (lv_at hl 0 rfl) ?_
  refine r_get hx hb hC hP i_LO (7) (by decide) rfl rfl 2 (by decide) l_LO_19 rfl d_LO_hold_22 ?_
  rw [show (su (su S 8 i ((S 8 i) + 1)) 7 1 ((S 7 1) + 1)) 7 2 = S 7 2 from by rw [su_int _ _ _ (by decide), su_cell _ _ _ (by decide)]]
  refine lv_aload_n hx hb d_LO_hold_25 rfl (lv_at hl 0 rfl) ?_
  refine r_get hx hb hC hP i_LO (7) (by decide) rfl rfl 1 (by decide) l_LO_15 rfl d_LO_hold_26 ?_
  rw [show (su (su S 8 i ((S 8 i) + 1)) 7 1 ((S 7 1) + 1)) 7 1 = (S 7 1) + 1 from by rw [su_same]]
  refine va_mmax hx hb (hml.trans hl.1.symm) hC.1 (hC.2.1 _ l_LO_22) (hC.2.1 _ st_JM_max) (hC.2.1 _ in_JM) (hC.2.1 _ c_JM_max_in) (by simp only [rmF]; omega) (Nat.le_of_ble_eq_true rfl) (Nat.le_refl _) (Nat.le_refl _) d_LO_hold_29 ?_
  refine r_put hx hb hC hP hS i_LO t_LO t_LO_ok n_LO (7) (by decide) rfl rfl 2 (by decide) l_LO_19 rfl rfl rfl (Nat.le_of_ble_eq_true rfl) d_LO_hold_32 (fun H locs hP hS => ?_)
  exact e_v hx hb hr hlk hC hP hS d_LO_hold_35 rfl

set_option maxHeartbeats 4000000 in
set_option maxRecDepth 100000 in
theorem m_LO_release (l : Launch) (G : WG) (S : SS) (i : Nat) (hi : i < 3) (n : Int32) : Cv l y_LO_release b_LO_release 3 0 G [.ref (gA G 7), .int (nI i), .int n] S (fun S1 => S1 = lRel S i n) := by
  refine mk l (by decide +kernel) (Nat.le_of_ble_eq_true rfl) ?_
  intro pp_ ee_ ss_ mm_ be_ me_ co_ ls hx hb hr hlk hml hC hP hS hl
  have hl : lv_has ls 3 [(0, .ref (gA G 7)), (1, .int (nI i)), (2, .int n)] := hl
  refine lv_aload_n hx hb d_LO_release_0 rfl (lv_at hl 0 rfl) ?_
  refine r_get hx hb hC hP i_LO (7) (by decide) rfl rfl 0 (by decide) l_LO_9 rfl d_LO_release_1 ?_
  refine lv_iload_n hx hb d_LO_release_4 rfl (lv_at hl 1 rfl) ?_
  refine lv_dup2_11 hx hb d_LO_release_5 rfl rfl ?_
  refine r_ild hx hb hC hP (8) (by decide) rfl i rfl (by omega) (by decide) d_LO_release_6 ?_
  refine lv_iload_n hx hb d_LO_release_7 rfl (lv_at hl 2 rfl) ?_
  refine lv_isub hx hb d_LO_release_8 ?_
  refine r_ist hx hb hC hP hS (8) (by decide) (fun _ => rfl) i rfl (by omega) (by decide) d_LO_release_9 (fun H locs hP hS => ?_)
  refine lv_aload_n hx hb d_LO_release_10 rfl (lv_at hl 0 rfl) ?_
  refine lv_dup hx hb d_LO_release_11 rfl ?_
  refine r_get hx hb hC hP i_LO (7) (by decide) rfl rfl 1 (by decide) l_LO_15 rfl d_LO_release_12 ?_
  rw [show (su S 8 i ((S 8 i) - n)) 7 1 = S 7 1 from by rw [su_cell _ _ _ (by decide)]]
  refine lv_iload_n hx hb d_LO_release_15 rfl (lv_at hl 2 rfl) ?_
  refine lv_isub hx hb d_LO_release_16 ?_
  refine r_put hx hb hC hP hS i_LO t_LO t_LO_ok n_LO (7) (by decide) rfl rfl 1 (by decide) l_LO_15 rfl rfl rfl (Nat.le_of_ble_eq_true rfl) d_LO_release_17 (fun H locs hP hS => ?_)
  exact e_v hx hb hr hlk hC hP hS d_LO_release_20 rfl

set_option maxHeartbeats 4000000 in
set_option maxRecDepth 100000 in
theorem m_LO_isHeld (l : Launch) (G : WG) (S : SS) (i : Nat) (hi : i < 3) : Ci l y_LO_isHeld b_LO_isHeld 2 (some (.boolean)) 0 G [.ref (gA G 7), .int (nI i)] S (fun r S1 => r = b2i (decide (0 < S 8 i)) ∧ S1 = S) := by
  refine mk l (by decide +kernel) (Nat.le_of_ble_eq_true rfl) ?_
  intro pp_ ee_ ss_ mm_ be_ me_ co_ ls hx hb hr hlk hml hC hP hS hl
  have hl : lv_has ls 2 [(0, .ref (gA G 7)), (1, .int (nI i))] := hl
  refine lv_aload_n hx hb d_LO_isHeld_0 rfl (lv_at hl 0 rfl) ?_
  refine r_get hx hb hC hP i_LO (7) (by decide) rfl rfl 0 (by decide) l_LO_9 rfl d_LO_isHeld_1 ?_
  refine lv_iload_n hx hb d_LO_isHeld_4 rfl (lv_at hl 1 rfl) ?_
  refine r_ild hx hb hC hP (8) (by decide) rfl i rfl (by omega) (by decide) d_LO_isHeld_5 ?_
  refine lv_if_le (tgt := 13) hx hb d_LO_isHeld_6 (by decide) (fun c_6 => ?_) (fun c_6 => ?_)
  · refine lv_iconst (v := 0) hx hb d_LO_isHeld_13 (by decide) ?_
    exact e_z hx hb hr hlk hC hP hS d_LO_isHeld_14 (by decide) ⟨by simp_all [b2i, Int32.not_le, Int32.not_lt], rfl⟩
  · refine lv_iconst (v := 1) hx hb d_LO_isHeld_9 (by decide) ?_
    refine lv_goto (tgt := 14) hx hb d_LO_isHeld_10 (by decide) ?_
    exact e_z hx hb hr hlk hC hP hS d_LO_isHeld_14 (by decide) ⟨by simp_all [b2i, Int32.not_le, Int32.not_lt], rfl⟩

def frBegin (S : SS) (q : Nat) (pr nu : Int32) : SS := su (su (su (su (su (su (su S (27 + 2 * q) 1 pr) (27 + 2 * q) 2 nu) (27 + 2 * q) 3 0) (27 + 2 * q) 4 (-1)) (28 + 2 * q) 0 0) (28 + 2 * q) 1 0) (28 + 2 * q) 2 0
set_option maxHeartbeats 4000000 in
set_option maxRecDepth 100000 in
theorem m_FR_begin (l : Launch) (G : WG) (S : SS) (q : Nat) (hq : q < 6) (a b : Int32) : Cv l y_FR_begin b_FR_begin 4 0 G [.ref (gA G (27 + 2 * q)), .int a, .int b] S (fun S1 => S1 = frBegin S q a b) := by
  refine mk l (by decide +kernel) (Nat.le_of_ble_eq_true rfl) ?_
  intro pp_ ee_ ss_ mm_ be_ me_ co_ ls hx hb hr hlk hml hC hP hS hl
  have hl : lv_has ls 4 [(0, .ref (gA G (27 + 2 * q))), (1, .int a), (2, .int b)] := hl
  refine lv_aload_n hx hb d_FR_begin_0 rfl (lv_at hl 0 rfl) ?_
  refine lv_iload_n hx hb d_FR_begin_1 rfl (lv_at hl 1 rfl) ?_
  refine r_put hx hb hC hP hS i_FR t_FR t_FR_ok n_FR (27 + 2 * q) (by omega) (sh_F G _ hq) rfl 1 (by decide) l_FR_15 rfl rfl (by rw [sh_F G _ hq]; rfl) (Nat.le_of_ble_eq_true rfl) d_FR_begin_2 (fun H locs hP hS => ?_)
  refine lv_aload_n hx hb d_FR_begin_5 rfl (lv_at hl 0 rfl) ?_
  refine lv_iload_n hx hb d_FR_begin_6 rfl (lv_at hl 2 rfl) ?_
  refine r_put hx hb hC hP hS i_FR t_FR t_FR_ok n_FR (27 + 2 * q) (by omega) (sh_F G _ hq) rfl 2 (by decide) l_FR_19 rfl rfl (by rw [sh_F G _ hq]; rfl) (Nat.le_of_ble_eq_true rfl) d_FR_begin_7 (fun H locs hP hS => ?_)
  refine lv_aload_n hx hb d_FR_begin_10 rfl (lv_at hl 0 rfl) ?_
  refine lv_iconst (v := 0) hx hb d_FR_begin_11 (by decide) ?_
  refine r_put hx hb hC hP hS i_FR t_FR t_FR_ok n_FR (27 + 2 * q) (by omega) (sh_F G _ hq) rfl 3 (by decide) l_FR_22 rfl rfl (by rw [sh_F G _ hq]; rfl) (Nat.le_of_ble_eq_true rfl) d_FR_begin_12 (fun H locs hP hS => ?_)
  refine lv_aload_n hx hb d_FR_begin_15 rfl (lv_at hl 0 rfl) ?_
  refine lv_iconst (v := (-1)) hx hb d_FR_begin_16 (by decide) ?_
  refine r_put hx hb hC hP hS i_FR t_FR t_FR_ok n_FR (27 + 2 * q) (by omega) (sh_F G _ hq) rfl 4 (by decide) l_FR_25 rfl rfl (by rw [sh_F G _ hq]; rfl) (Nat.le_of_ble_eq_true rfl) d_FR_begin_17 (fun H locs hP hS => ?_)
  refine lv_iconst (v := 0) hx hb d_FR_begin_20 (by decide) ?_
  refine lv_istore_n (lv' := [(3, .int 0), (0, .ref (gA G (27 + 2 * q))), (1, .int a), (2, .int b)]) hx hb d_FR_begin_21 rfl hl (by decide) rfl (fun ls hl => ?_)
  refine lv_iload_n hx hb d_FR_begin_22 rfl (lv_at hl 0 rfl) ?_
  refine lv_iconst (v := 3) hx hb d_FR_begin_23 (by decide) ?_
  refine lv_icmp_ge (tgt := 40) hx hb d_FR_begin_24 (by decide) (fun h => absurd h (by decide)) (fun _ => ?_)
  refine lv_aload_n hx hb d_FR_begin_27 rfl (lv_at hl 1 rfl) ?_
  refine r_get hx hb hC hP i_FR (27 + 2 * q) (by omega) (sh_F G _ hq) rfl 0 (by decide) l_FR_9 rfl d_FR_begin_28 ?_
  refine lv_iload_n hx hb d_FR_begin_31 rfl (lv_at hl 0 rfl) ?_
  refine lv_iconst (v := 0) hx hb d_FR_begin_32 (by decide) ?_
  refine r_ist hx hb hC hP hS (28 + 2 * q) (by omega) (fun r => sh_F1 G r hq) 0 rfl (by decide) (by decide) d_FR_begin_33 (fun H locs hP hS => ?_)
  refine lv_iinc (v := 1) (lv' := [(3, .int 1), (0, .ref (gA G (27 + 2 * q))), (1, .int a), (2, .int b)]) hx hb d_FR_begin_34 hl (k := 0) rfl (by decide) (by decide) rfl (fun ls hl => ?_)
  refine lv_goto (tgt := 22) hx hb d_FR_begin_37 (by decide) ?_
  refine lv_iload_n hx hb d_FR_begin_22 rfl (lv_at hl 0 rfl) ?_
  refine lv_iconst (v := 3) hx hb d_FR_begin_23 (by decide) ?_
  refine lv_icmp_ge (tgt := 40) hx hb d_FR_begin_24 (by decide) (fun h => absurd h (by decide)) (fun _ => ?_)
  refine lv_aload_n hx hb d_FR_begin_27 rfl (lv_at hl 1 rfl) ?_
  refine r_get hx hb hC hP i_FR (27 + 2 * q) (by omega) (sh_F G _ hq) rfl 0 (by decide) l_FR_9 rfl d_FR_begin_28 ?_
  refine lv_iload_n hx hb d_FR_begin_31 rfl (lv_at hl 0 rfl) ?_
  refine lv_iconst (v := 0) hx hb d_FR_begin_32 (by decide) ?_
  refine r_ist hx hb hC hP hS (28 + 2 * q) (by omega) (fun r => sh_F1 G r hq) 1 rfl (by decide) (by decide) d_FR_begin_33 (fun H locs hP hS => ?_)
  refine lv_iinc (v := 2) (lv' := [(3, .int 2), (0, .ref (gA G (27 + 2 * q))), (1, .int a), (2, .int b)]) hx hb d_FR_begin_34 hl (k := 0) rfl (by decide) (by decide) rfl (fun ls hl => ?_)
  refine lv_goto (tgt := 22) hx hb d_FR_begin_37 (by decide) ?_
  refine lv_iload_n hx hb d_FR_begin_22 rfl (lv_at hl 0 rfl) ?_
  refine lv_iconst (v := 3) hx hb d_FR_begin_23 (by decide) ?_
  refine lv_icmp_ge (tgt := 40) hx hb d_FR_begin_24 (by decide) (fun h => absurd h (by decide)) (fun _ => ?_)
  refine lv_aload_n hx hb d_FR_begin_27 rfl (lv_at hl 1 rfl) ?_
  refine r_get hx hb hC hP i_FR (27 + 2 * q) (by omega) (sh_F G _ hq) rfl 0 (by decide) l_FR_9 rfl d_FR_begin_28 ?_
  refine lv_iload_n hx hb d_FR_begin_31 rfl (lv_at hl 0 rfl) ?_
  refine lv_iconst (v := 0) hx hb d_FR_begin_32 (by decide) ?_
  refine r_ist hx hb hC hP hS (28 + 2 * q) (by omega) (fun r => sh_F1 G r hq) 2 rfl (by decide) (by decide) d_FR_begin_33 (fun H locs hP hS => ?_)
  refine lv_iinc (v := 3) (lv' := [(3, .int 3), (0, .ref (gA G (27 + 2 * q))), (1, .int a), (2, .int b)]) hx hb d_FR_begin_34 hl (k := 0) rfl (by decide) (by decide) rfl (fun ls hl => ?_)
  refine lv_goto (tgt := 22) hx hb d_FR_begin_37 (by decide) ?_
  refine lv_iload_n hx hb d_FR_begin_22 rfl (lv_at hl 0 rfl) ?_
  refine lv_iconst (v := 3) hx hb d_FR_begin_23 (by decide) ?_
  refine lv_icmp_ge (tgt := 40) hx hb d_FR_begin_24 (by decide) (fun _ => ?_) (fun h => absurd h (by decide))
  exact e_v hx hb hr hlk hC hP hS d_FR_begin_40 rfl

