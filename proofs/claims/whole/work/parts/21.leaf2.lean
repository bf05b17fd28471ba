/-! more leaves of the class: written by wip/gen/p21.py -/
theorem d_JM_floorMod_0 : decode b_JM_floorMod 0 = .ok (.iload_n 0, 1) := by decide +kernel
theorem d_JM_floorMod_1 : decode b_JM_floorMod 1 = .ok (.iload_n 1, 1) := by decide +kernel
theorem d_JM_floorMod_2 : decode b_JM_floorMod 2 = .ok (.irem, 1) := by decide +kernel
theorem d_JM_floorMod_3 : decode b_JM_floorMod 3 = .ok (.istore_n 2, 1) := by decide +kernel
theorem d_JM_floorMod_4 : decode b_JM_floorMod 4 = .ok (.iload_n 0, 1) := by decide +kernel
theorem d_JM_floorMod_5 : decode b_JM_floorMod 5 = .ok (.iload_n 1, 1) := by decide +kernel
theorem d_JM_floorMod_6 : decode b_JM_floorMod 6 = .ok (.ixor, 1) := by decide +kernel
theorem d_JM_floorMod_7 : decode b_JM_floorMod 7 = .ok (.ifCond .ge 11, 3) := by decide +kernel
theorem d_JM_floorMod_10 : decode b_JM_floorMod 10 = .ok (.iload_n 2, 1) := by decide +kernel
theorem d_JM_floorMod_11 : decode b_JM_floorMod 11 = .ok (.ifCond .eq 7, 3) := by decide +kernel
theorem d_JM_floorMod_14 : decode b_JM_floorMod 14 = .ok (.iload_n 2, 1) := by decide +kernel
theorem d_JM_floorMod_15 : decode b_JM_floorMod 15 = .ok (.iload_n 1, 1) := by decide +kernel
theorem d_JM_floorMod_16 : decode b_JM_floorMod 16 = .ok (.iadd, 1) := by decide +kernel
theorem d_JM_floorMod_17 : decode b_JM_floorMod 17 = .ok (.ireturn, 1) := by decide +kernel
theorem d_JM_floorMod_18 : decode b_JM_floorMod 18 = .ok (.iload_n 2, 1) := by decide +kernel
theorem d_JM_floorMod_19 : decode b_JM_floorMod 19 = .ok (.ireturn, 1) := by decide +kernel
theorem xorN (a b : Nat) : nI a ^^^ nI b = nI (a ^^^ b) := by
  apply Int32.toBitVec_inj.mp
  show BitVec.ofInt 32 a ^^^ BitVec.ofInt 32 b = BitVec.ofInt 32 ((a ^^^ b : Nat) : Int)
  simp only [BitVec.ofInt_natCast]
  apply BitVec.eq_of_toNat_eq
  simp [Nat.xor_mod_two_pow]
theorem xor32 {n : Nat} (h : n < 2 ^ 31) : ¬ (nI n ^^^ (32 : Int32)) < 0 := by
  rw [show (32 : Int32) = nI 32 from rfl, xorN]
  exact nI_pos (Nat.xor_lt_two_pow h (by decide))
theorem mkF (l : Launch) {y : MethodName} {bb : ByteArray} {n h : Nat} {rt : Option FieldType} {G : WG} {as : List Value} {S : SS} {Qc : Array Value → State → Outcome → State → Prop} (hy : plainFor y = true) (hn : (lg_sl as).length ≤ n)
    (body : ∀ (p : Program) (e : Env) (s : State) (m : MethodId) (below : List Frame) (meth : Method) (c : Code) (ls : Array Slot), p.tables.exec = Jvm.exec → c.code = bb → meth.sig.returnType = rt → meth.locks = false → c.maxLocals = n → CC G y.cls s m as.toArray (AA G) → va_P (gD G) clsL (wl (gA G) 57 (fS G S)) s.heap → va_S (AA G) s.heap s.heap [] → lv_has ls n (lv_args 0 as) →
      W p l e (rmF h) s m as.toArray below meth c s.heap [] 0 0 (MQ below Qc as.toArray s 0 0 (AA G)) (F0 m 0 ls [])) : Met l y (wsM y bb n rt) (rmF h) (Pw G as S) Qc 0 0 (AA G) := by
  refine va_MetF (cc := bb) (maxL := n) (ret := rt) hy rfl ?_
  intro p e s m args below meth c s₁ B hml hv
  obtain ⟨rfl, hP, hKK⟩ := hv
  have hC : CC G y.cls s m as.toArray (AA G) := ⟨findClass_of_methodNamed B.named, fun w h => atoms_spec (ws := wsM y bb n rt) B.pre w (List.mem_cons_of_mem _ h), hKK, fun _ h => h, fun _ _ h => h⟩
  have hl := lv_entry as (n := n) hn
  rw [lg_entry_eq]
  generalize (lg_sl as ++ List.replicate (n - (lg_sl as).length) Slot.unset).toArray = ls at hl ⊢
  exact body p e s m below meth c ls B.exec B.bytes B.returns B.notSynchronized hml hC hP va_S.rf hl
set_option maxHeartbeats 4000000 in
set_option maxRecDepth 100000 in
theorem m_JM_floorMod (l : Launch) (G : WG) (S : SS) (n : Nat) (hn : n < 2 ^ 31) : Ci l y_JM_floorMod b_JM_floorMod 3 (some (.int)) 0 G [.int (nI n), .int 32] S (fun r S1 => r = nI (n % 32) ∧ S1 = S) := by
  refine mkF l (by decide +kernel) (Nat.le_of_ble_eq_true rfl) ?_
  intro pp_ ee_ ss_ mm_ be_ me_ co_ ls hx hb hr hlk hml hC hP hS hl
  have hl : lv_has ls 3 [(0, .int (nI n)), (1, .int 32)] := hl
  refine lv_iload_n hx hb d_JM_floorMod_0 rfl (lv_at hl 0 rfl) ?_
  refine lv_iload_n hx hb d_JM_floorMod_1 rfl (lv_at hl 1 rfl) ?_
  refine lv_irem hx hb d_JM_floorMod_2 (by decide) ?_
  rw [show (nI n) - (nI n) / 32 * 32 = nI (n % 32) from pk_rem (d := 32) hn (by decide) (by decide)]
  refine lv_istore_n (lv' := [(2, .int (nI (n % 32))), (0, .int (nI n)), (1, .int 32)]) hx hb d_JM_floorMod_3 rfl hl (by decide) rfl (fun ls hl => ?_)
  refine lv_iload_n hx hb d_JM_floorMod_4 rfl (lv_at hl 1 rfl) ?_
  refine lv_iload_n hx hb d_JM_floorMod_5 rfl (lv_at hl 2 rfl) ?_
  refine lv_ixor hx hb d_JM_floorMod_6 ?_
  refine lv_if_ge (tgt := 18) hx hb d_JM_floorMod_7 (by decide) (fun c_7 => ?_) (fun c_7 => absurd (Int32.not_lt.mp (xor32 hn)) c_7)
  refine lv_iload_n hx hb d_JM_floorMod_18 rfl (lv_at hl 0 rfl) ?_
  exact e_i hx hb hr hlk hC hP hS d_JM_floorMod_19 ⟨rfl, rfl⟩

def eNote (S : SS) (n : Nat) (a : Int32) : SS := su (su S 10 (n % 32) a) 9 1 (nI (n + 1))
set_option maxHeartbeats 4000000 in
set_option maxRecDepth 100000 in
theorem m_EV_note (l : Launch) (G : WG) (S : SS) (n : Nat) (hn : n < 2 ^ 31) (hs : S 9 1 = nI n) (a : Int32) : Cv l y_EV_note b_EV_note 2 1 G [.ref (gA G 9), .int a] S (fun S1 => S1 = eNote S n a) := by
  refine mk l (by decide +kernel) (Nat.le_of_ble_eq_true rfl) ?_
  intro pp_ ee_ ss_ mm_ be_ me_ co_ ls hx hb hr hlk hml hC hP hS hl
  have hl : lv_has ls 2 [(0, .ref (gA G 9)), (1, .int a)] := hl
  refine lv_aload_n hx hb d_EV_note_0 rfl (lv_at hl 0 rfl) ?_
  refine r_get hx hb hC hP i_EV (9) (by decide) rfl rfl 0 (by decide) l_EV_9 rfl d_EV_note_1 ?_
  refine lv_aload_n hx hb d_EV_note_4 rfl (lv_at hl 0 rfl) ?_
  refine r_get hx hb hC hP i_EV (9) (by decide) rfl rfl 1 (by decide) l_EV_15 rfl d_EV_note_5 ?_
  rw [show S 9 1 = nI n from hs]
  refine lv_bipush (v := 32) hx hb d_EV_note_8 (by decide) ?_
  refine r_i hC hS (r_runS (np := 2) (As := [.int (nI n), .int 32]) (rest := [.ref (gA G 10)]) hx hb hml hC hP hS (m_JM_floorMod l G S n (by omega)) l_EV_19 st_JM_floorMod in_JM c_JM_floorMod_in (by decide +kernel) ⟨by simp only [rmF]; omega, by simp only [rmF]; omega⟩ rfl hl.1 (Nat.le_of_ble_eq_true rfl) d_EV_note_10 ⟨Nat.le_refl _, Nat.le_refl _⟩) (fun r_10 S_10 H locs hw hP hS => ?_)
  obtain ⟨rfl, hSe⟩ := hw
  rw [hSe] at hP
  refine lv_iload_n hx hb d_EV_note_13 rfl (lv_at hl 1 rfl) ?_
  refine r_ist hx hb hC hP hS (10) (by decide) (fun _ => rfl) (n % 32) rfl (by omega) (by decide) d_EV_note_14 (fun H locs hP hS => ?_)
  refine lv_aload_n hx hb d_EV_note_15 rfl (lv_at hl 0 rfl) ?_
  refine lv_dup hx hb d_EV_note_16 rfl ?_
  refine r_get hx hb hC hP i_EV (9) (by decide) rfl rfl 1 (by decide) l_EV_15 rfl d_EV_note_17 ?_
  rw [show (su S 10 (n % 32) a) 9 1 = S 9 1 from by rw [su_cell _ _ _ (by decide)]]
  rw [show S 9 1 = nI n from hs]
  refine lv_iconst (v := 1) hx hb d_EV_note_20 (by decide) ?_
  refine lv_iadd hx hb d_EV_note_21 ?_
  rw [show (nI n) + 1 = nI (n + 1) from nI_1 n]
  refine r_put hx hb hC hP hS i_EV t_EV t_EV_ok n_EV (9) (by decide) rfl rfl 1 (by decide) l_EV_15 rfl rfl rfl (Nat.le_of_ble_eq_true rfl) d_EV_note_22 (fun H locs hP hS => ?_)
  exact e_v hx hb hr hlk hC hP hS d_EV_note_25 rfl

def eAt (S : SS) (n : Nat) (i : Int32) : Int32 := if isB i 32 = true ∧ i < nI n then S 10 ((n - 1 - i.toNatClampNeg) % 32) else -1
set_option maxHeartbeats 4000000 in
set_option maxRecDepth 100000 in
theorem m_EV_fromLast (l : Launch) (G : WG) (S : SS) (n : Nat) (hn : n < 2 ^ 31) (hs : S 9 1 = nI n) (i : Int32) : Ci l y_EV_fromLast b_EV_fromLast 2 (some (.int)) 1 G [.ref (gA G 9), .int i] S (fun r S1 => r = eAt S n i ∧ S1 = S) := by
  refine mk l (by decide +kernel) (Nat.le_of_ble_eq_true rfl) ?_
  intro pp_ ee_ ss_ mm_ be_ me_ co_ ls hx hb hr hlk hml hC hP hS hl
  have hl : lv_has ls 2 [(0, .ref (gA G 9)), (1, .int i)] := hl
  refine lv_iload_n hx hb d_EV_fromLast_0 rfl (lv_at hl 1 rfl) ?_
  refine lv_bipush (v := 32) hx hb d_EV_fromLast_1 (by decide) ?_
  refine r_i hC hS (r_runSN (np := 2) (As := [.int i, .int 32]) (rest := []) hx hb hml hC hP hS (m_LB_isBelow l G S i 32) k_EV_25 st_LB_isBelow in_LB c_LB_isBelow_in (by decide +kernel) ⟨by simp only [rmF]; omega, by simp only [rmF]; omega⟩ rfl hl.1 (Nat.le_of_ble_eq_true rfl) d_EV_fromLast_3 ⟨Nat.le_refl _, Nat.le_refl _⟩) (fun r_3 S_3 H locs hw hP hS => ?_)
  obtain ⟨rfl, hSe⟩ := hw
  rw [hSe] at hP
  refine lv_if_eq (tgt := 17) hx hb d_EV_fromLast_6 (by decide) (fun c_6 => ?_) (fun c_6 => ?_)
  · have c_6 := b2i_f c_6
    refine lv_iconst (v := (-1)) hx hb d_EV_fromLast_17 (by decide) ?_
    exact e_i hx hb hr hlk hC hP hS d_EV_fromLast_18 ⟨by rw [eAt, if_neg (by intro h; first | (exact absurd h.2 c_14) | (have h1 := h.1; rw [c_6] at h1; exact absurd h1 (by decide)))], rfl⟩
  · have c_6 := b2i_t c_6
    obtain ⟨j, hj32, hj⟩ := isB_nI (b := 32) (by omega) c_6
    refine lv_iload_n hx hb d_EV_fromLast_9 rfl (lv_at hl 1 rfl) ?_
    refine lv_aload_n hx hb d_EV_fromLast_10 rfl (lv_at hl 0 rfl) ?_
    refine r_get hx hb hC hP i_EV (9) (by decide) rfl rfl 1 (by decide) l_EV_15 rfl d_EV_fromLast_11 ?_
    rw [show S 9 1 = nI n from hs]
    refine lv_icmp_lt (tgt := 19) hx hb d_EV_fromLast_14 (by decide) (fun c_14 => ?_) (fun c_14 => ?_)
    · have hjn : j < n := by rw [hj] at c_14; exact (nI_ltI (by omega) (by omega)).mp c_14
      refine lv_aload_n hx hb d_EV_fromLast_19 rfl (lv_at hl 0 rfl) ?_
      refine r_get hx hb hC hP i_EV (9) (by decide) rfl rfl 0 (by decide) l_EV_9 rfl d_EV_fromLast_20 ?_
      refine lv_aload_n hx hb d_EV_fromLast_23 rfl (lv_at hl 0 rfl) ?_
      refine r_get hx hb hC hP i_EV (9) (by decide) rfl rfl 1 (by decide) l_EV_15 rfl d_EV_fromLast_24 ?_
      rw [show S 9 1 = nI n from hs]
      refine lv_iconst (v := 1) hx hb d_EV_fromLast_27 (by decide) ?_
      refine lv_isub hx hb d_EV_fromLast_28 ?_
      rw [show (nI n) - 1 = nI (n - 1) from (by rw [show (1 : Int32) = nI 1 from rfl]; exact pk_sub (by omega))]
      refine lv_iload_n hx hb d_EV_fromLast_29 rfl (lv_at hl 1 rfl) ?_
      refine lv_isub hx hb d_EV_fromLast_30 ?_
      rw [show (nI (n - 1)) - i = nI (n - 1 - j) from (by rw [hj]; exact pk_sub (by omega))]
      refine lv_bipush (v := 32) hx hb d_EV_fromLast_31 (by decide) ?_
      refine r_i hC hS (r_runS (np := 2) (As := [.int (nI (n - 1 - j)), .int 32]) (rest := [.ref (gA G 10)]) hx hb hml hC hP hS (m_JM_floorMod l G S (n - 1 - j) (by omega)) l_EV_19 st_JM_floorMod in_JM c_JM_floorMod_in (by decide +kernel) ⟨by simp only [rmF]; omega, by simp only [rmF]; omega⟩ rfl hl.1 (Nat.le_of_ble_eq_true rfl) d_EV_fromLast_33 ⟨Nat.le_refl _, Nat.le_refl _⟩) (fun r_33 S_33 H locs hw hP hS => ?_)
      obtain ⟨rfl, hSe⟩ := hw
      rw [hSe] at hP
      refine r_ild hx hb hC hP (10) (by decide) rfl ((n - 1 - j) % 32) rfl (by omega) (by decide) d_EV_fromLast_36 ?_
      exact e_i hx hb hr hlk hC hP hS d_EV_fromLast_37 ⟨by rw [eAt, if_pos ⟨by assumption, by rw [hj]; exact nI_lt hjn (by omega)⟩, hj, nI_clamp (by omega)], rfl⟩
    · refine lv_iconst (v := (-1)) hx hb d_EV_fromLast_17 (by decide) ?_
      exact e_i hx hb hr hlk hC hP hS d_EV_fromLast_18 ⟨by rw [eAt, if_neg (by intro h; first | (exact absurd h.2 c_14) | (have h1 := h.1; rw [c_6] at h1; exact absurd h1 (by decide)))], rfl⟩

set_option maxHeartbeats 4000000 in
set_option maxRecDepth 100000 in
theorem m_MA_textOf (l : Launch) (G : WG) (S : SS) (q p : Nat) (hq : q < 6) (hp : p < 4) (hs : S (27 + 2 * q) 1 = nI p) : Cr l y_MA_textOf b_MA_textOf 2 (some (.object "EndingsLab$Text")) 0 G [.ref (gA G 1), .int (nI q)] S (fun i S1 => i = 11 + 4 * p ∧ S1 = S) := by
  refine mk l (by decide +kernel) (Nat.le_of_ble_eq_true rfl) ?_
  intro pp_ ee_ ss_ mm_ be_ me_ co_ ls hx hb hr hlk hml hC hP hS hl
  have hl : lv_has ls 2 [(0, .ref (gA G 1)), (1, .int (nI q))] := hl
  refine lv_aload_n hx hb d_MA_textOf_0 rfl (lv_at hl 0 rfl) ?_
  refine r_get hx hb hC hP i_MA (1) (by decide) rfl rfl 0 (by decide) l_MA_11 rfl d_MA_textOf_1 ?_
  refine lv_aload_n hx hb d_MA_textOf_4 rfl (lv_at hl 0 rfl) ?_
  refine r_get hx hb hC hP i_MA (1) (by decide) rfl rfl 1 (by decide) l_MA_19 rfl d_MA_textOf_5 ?_
  refine lv_iload_n hx hb d_MA_textOf_8 rfl (lv_at hl 1 rfl) ?_
  refine r_frame hx hb hC hP q rfl (by omega) d_MA_textOf_9 ?_
  refine r_getN hx hb hC hP i_FR (27 + 2 * q) (by omega) (sh_F G _ hq) rfl 1 (by decide) k_MA_110 rfl d_MA_textOf_10 ?_
  rw [show S (27 + 2 * q) 1 = nI p from hs]
  refine r_text hx hb hC hP p rfl (by omega) d_MA_textOf_13 ?_
  exact e_r (post := fun i S1 => i = 11 + 4 * p ∧ S1 = S) hx hb hr hlk hC hP hS d_MA_textOf_14 ⟨rfl, rfl⟩

def mRaise (S : SS) (n q : Nat) (k c : Int32) : SS := su (fMk S n k c) (27 + 2 * q) 3 (nI n)
set_option maxHeartbeats 4000000 in
set_option maxRecDepth 100000 in
theorem m_MA_raise (l : Launch) (G : WG) (S : SS) (n q : Nat) (hn : n < 301) (hq : q < 6) (hs : S 4 2 = nI n) (a b : Int32) : Ce l y_MA_raise b_MA_raise 4 1 G [.ref (gA G 1), .ref (gA G (27 + 2 * q)), .int a, .int b] S (fun e S1 => e = 4 ∧ S1 = mRaise S n q a b) := by
  refine mk l (by decide +kernel) (Nat.le_of_ble_eq_true rfl) ?_
  intro pp_ ee_ ss_ mm_ be_ me_ co_ ls hx hb hr hlk hml hC hP hS hl
  have hl : lv_has ls 4 [(0, .ref (gA G 1)), (1, .ref (gA G (27 + 2 * q))), (2, .int a), (3, .int b)] := hl
  refine lv_aload_n hx hb d_MA_raise_0 rfl (lv_at hl 1 rfl) ?_
  refine lv_aload_n hx hb d_MA_raise_1 rfl (lv_at hl 0 rfl) ?_
  refine r_get hx hb hC hP i_MA (1) (by decide) rfl rfl 2 (by decide) l_MA_26 rfl d_MA_raise_2 ?_
  refine lv_iload_n hx hb d_MA_raise_5 rfl (lv_at hl 2 rfl) ?_
  refine lv_iload_n hx hb d_MA_raise_6 rfl (lv_at hl 3 rfl) ?_
  refine r_i hC hS (r_runV (np := 2) (As := [.int a, .int b]) (rest := [.ref (gA G (27 + 2 * q))]) hx hb hml hC hP hS (by decide) rfl rfl (m_FA_make l G S n (by omega) hs a b) l_MA_176 im_FA_make se_FA_make in_FA c_FA_make_in (by decide +kernel) ⟨by simp only [rmF]; omega, by simp only [rmF]; omega⟩ rfl hl.1 (Nat.le_of_ble_eq_true rfl) d_MA_raise_7 ⟨Nat.le_refl _, Nat.le_refl _⟩) (fun r_7 S_7 H locs hw hP hS => ?_)
  obtain ⟨rfl, hSe⟩ := hw
  rw [hSe] at hP
  refine r_putN hx hb hC hP hS i_FR t_FR t_FR_ok n_FR (27 + 2 * q) (by omega) (sh_F G _ hq) rfl 3 (by decide) k_MA_76 rfl rfl (by rw [sh_F G _ hq]; rfl) (Nat.le_of_ble_eq_true rfl) d_MA_raise_10 (fun H locs hP hS => ?_)
  refine r_enum hx hb hC hS 4 (by decide) l_MA_73 d_MA_raise_13 ?_
  exact e_e (post := fun e S1 => e = 4 ∧ S1 = mRaise S n q a b) hx hb hr hlk hC hP hS d_MA_raise_16 (by decide) ⟨rfl, rfl⟩

set_option maxHeartbeats 4000000 in
set_option maxRecDepth 100000 in
theorem m_MA_doDivide (l : Launch) (G : WG) (S : SS) (n q : Nat) (hn : n < 301) (hq : q < 6) (hs : S 4 2 = nI n) (a : Int32) : Ce l y_MA_doDivide b_MA_doDivide 3 2 G [.ref (gA G 1), .ref (gA G (27 + 2 * q)), .int a] S (fun e S1 => (e = if a = 0 then 4 else 0) ∧ S1 = if a = 0 then mRaise S n q 6 (-1) else su S (27 + 2 * q) 2 (S (27 + 2 * q) 2 / a)) := by
  refine mk l (by decide +kernel) (Nat.le_of_ble_eq_true rfl) ?_
  intro pp_ ee_ ss_ mm_ be_ me_ co_ ls hx hb hr hlk hml hC hP hS hl
  have hl : lv_has ls 3 [(0, .ref (gA G 1)), (1, .ref (gA G (27 + 2 * q))), (2, .int a)] := hl
  refine lv_iload_n hx hb d_MA_doDivide_0 rfl (lv_at hl 2 rfl) ?_
  refine lv_if_ne (tgt := 13) hx hb d_MA_doDivide_1 (by decide) (fun c_1 => ?_) (fun c_1 => ?_)
  · refine lv_aload_n hx hb d_MA_doDivide_13 rfl (lv_at hl 1 rfl) ?_
    refine lv_dup hx hb d_MA_doDivide_14 rfl ?_
    refine r_getN hx hb hC hP i_FR (27 + 2 * q) (by omega) (sh_F G _ hq) rfl 2 (by decide) k_MA_89 rfl d_MA_doDivide_15 ?_
    refine lv_iload_n hx hb d_MA_doDivide_18 rfl (lv_at hl 2 rfl) ?_
    refine lv_idiv hx hb d_MA_doDivide_19 c_1 ?_
    refine r_putN hx hb hC hP hS i_FR t_FR t_FR_ok n_FR (27 + 2 * q) (by omega) (sh_F G _ hq) rfl 2 (by decide) k_MA_89 rfl rfl (by rw [sh_F G _ hq]; rfl) (Nat.le_of_ble_eq_true rfl) d_MA_doDivide_20 (fun H locs hP hS => ?_)
    refine r_enum hx hb hC hS 0 (by decide) l_MA_86 d_MA_doDivide_23 ?_
    exact e_e (post := fun e S1 => (e = if a = 0 then 4 else 0) ∧ S1 = if a = 0 then mRaise S n q 6 (-1) else su S (27 + 2 * q) 2 (S (27 + 2 * q) 2 / a)) hx hb hr hlk hC hP hS d_MA_doDivide_26 (by decide) ⟨by simp_all, by simp_all⟩
  · refine lv_aload_n hx hb d_MA_doDivide_4 rfl (lv_at hl 0 rfl) ?_
    refine lv_aload_n hx hb d_MA_doDivide_5 rfl (lv_at hl 1 rfl) ?_
    refine lv_bipush (v := 6) hx hb d_MA_doDivide_6 (by decide) ?_
    refine lv_iconst (v := (-1)) hx hb d_MA_doDivide_8 (by decide) ?_
    refine r_e (post := fun e S1 => e = 4 ∧ S1 = mRaise S n q 6 (-1)) hC hS (r_runV (np := 3) (As := [.ref (gA G (27 + 2 * q)), .int 6, .int (-1)]) (rest := []) hx hb hml hC hP hS (by decide) rfl rfl (m_MA_raise l G S n q (by omega) (by omega) hs 6 (-1)) l_MA_99 im_MA_raise se_MA_raise in_MA c_MA_raise_in (by decide +kernel) ⟨by simp only [rmF]; omega, by simp only [rmF]; omega⟩ rfl hl.1 (Nat.le_of_ble_eq_true rfl) d_MA_doDivide_9 ⟨Nat.le_refl _, Nat.le_refl _⟩) (fun i_9 S_9 H locs hi_9 hw hP hS => ?_)
    obtain ⟨rfl, hSe⟩ := hw
    rw [hSe] at hP
    exact e_e (post := fun e S1 => (e = if a = 0 then 4 else 0) ∧ S1 = if a = 0 then mRaise S n q 6 (-1) else su S (27 + 2 * q) 2 (S (27 + 2 * q) 2 / a)) hx hb hr hlk hC hP hS d_MA_doDivide_12 (by decide) ⟨by simp_all, by simp_all⟩

def mEnter (S : SS) (q i : Nat) : SS := lHold (su S (28 + 2 * q) i (S (28 + 2 * q) i + 1)) i
def mLeave (S : SS) (q i : Nat) : SS := lRel (su S (28 + 2 * q) i (S (28 + 2 * q) i - 1)) i 1
set_option maxHeartbeats 4000000 in
set_option maxRecDepth 100000 in
theorem m_MA_doEnter (l : Launch) (G : WG) (S : SS) (q i : Nat) (hq : q < 6) (hi : i < 3) : Ce l y_MA_doEnter b_MA_doEnter 3 2 G [.ref (gA G 1), .ref (gA G (27 + 2 * q)), .int (nI i)] S (fun e S1 => e = 0 ∧ S1 = mEnter S q i) := by
  refine mk l (by decide +kernel) (Nat.le_of_ble_eq_true rfl) ?_
  intro pp_ ee_ ss_ mm_ be_ me_ co_ ls hx hb hr hlk hml hC hP hS hl
  have hl : lv_has ls 3 [(0, .ref (gA G 1)), (1, .ref (gA G (27 + 2 * q))), (2, .int (nI i))] := hl
  refine lv_aload_n hx hb d_MA_doEnter_0 rfl (lv_at hl 1 rfl) ?_
  refine r_getN hx hb hC hP i_FR (27 + 2 * q) (by omega) (sh_F G _ hq) rfl 0 (by decide) k_MA_103 rfl d_MA_doEnter_1 ?_
  refine lv_iload_n hx hb d_MA_doEnter_4 rfl (lv_at hl 2 rfl) ?_
  refine lv_dup2_11 hx hb d_MA_doEnter_5 rfl rfl ?_
  refine r_ild hx hb hC hP (28 + 2 * q) (by omega) (sh_F1 G _ hq) i rfl (by omega) (by decide) d_MA_doEnter_6 ?_
  refine lv_iconst (v := 1) hx hb d_MA_doEnter_7 (by decide) ?_
  refine lv_iadd hx hb d_MA_doEnter_8 ?_
  refine r_ist hx hb hC hP hS (28 + 2 * q) (by omega) (fun r => sh_F1 G r hq) i rfl (by omega) (by decide) d_MA_doEnter_9 (fun H locs hP hS => ?_)
  refine lv_aload_n hx hb d_MA_doEnter_10 rfl (lv_at hl 0 rfl) ?_
  refine r_get hx hb hC hP i_MA (1) (by decide) rfl rfl 3 (by decide) l_MA_33 rfl d_MA_doEnter_11 ?_
  refine lv_iload_n hx hb d_MA_doEnter_14 rfl (lv_at hl 2 rfl) ?_
  refine r_v hC hS (r_runV (np := 1) (As := [.int (nI i)]) (rest := []) hx hb hml hC hP hS (by decide) rfl rfl (m_LO_hold l G (su S (28 + 2 * q) i ((S (28 + 2 * q) i) + 1)) i (by omega)) l_MA_203 im_LO_hold se_LO_hold in_LO c_LO_hold_in (by decide +kernel) ⟨by simp only [rmF]; omega, by simp only [rmF]; omega⟩ rfl hl.1 (Nat.le_of_ble_eq_true rfl) d_MA_doEnter_15 ⟨Nat.le_refl _, Nat.le_refl _⟩) (fun S_15 H locs hw hP hS => ?_)
  rw [hw] at hP
  refine r_enum hx hb hC hS 0 (by decide) l_MA_86 d_MA_doEnter_18 ?_
  exact e_e (post := fun e S1 => e = 0 ∧ S1 = mEnter S q i) hx hb hr hlk hC hP hS d_MA_doEnter_21 (by decide) ⟨rfl, rfl⟩

set_option maxHeartbeats 4000000 in
set_option maxRecDepth 100000 in
theorem m_MA_doLeave (l : Launch) (G : WG) (S : SS) (n q i : Nat) (hn : n < 301) (hq : q < 6) (hs : S 4 2 = nI n) (hi : i < 3) : Ce l y_MA_doLeave b_MA_doLeave 3 2 G [.ref (gA G 1), .ref (gA G (27 + 2 * q)), .int (nI i)] S (fun e S1 => (e = if S (28 + 2 * q) i ≤ 0 then 4 else 0) ∧ S1 = if S (28 + 2 * q) i ≤ 0 then mRaise S n q 4 (-1) else mLeave S q i) := by
  refine mk l (by decide +kernel) (Nat.le_of_ble_eq_true rfl) ?_
  intro pp_ ee_ ss_ mm_ be_ me_ co_ ls hx hb hr hlk hml hC hP hS hl
  have hl : lv_has ls 3 [(0, .ref (gA G 1)), (1, .ref (gA G (27 + 2 * q))), (2, .int (nI i))] := hl
  refine lv_aload_n hx hb d_MA_doLeave_0 rfl (lv_at hl 1 rfl) ?_
  refine r_getN hx hb hC hP i_FR (27 + 2 * q) (by omega) (sh_F G _ hq) rfl 0 (by decide) k_MA_103 rfl d_MA_doLeave_1 ?_
  refine lv_iload_n hx hb d_MA_doLeave_4 rfl (lv_at hl 2 rfl) ?_
  refine r_ild hx hb hC hP (28 + 2 * q) (by omega) (sh_F1 G _ hq) i rfl (by omega) (by decide) d_MA_doLeave_5 ?_
  refine lv_if_gt (tgt := 17) hx hb d_MA_doLeave_6 (by decide) (fun c_6 => ?_) (fun c_6 => ?_)
  · refine lv_aload_n hx hb d_MA_doLeave_17 rfl (lv_at hl 1 rfl) ?_
    refine r_getN hx hb hC hP i_FR (27 + 2 * q) (by omega) (sh_F G _ hq) rfl 0 (by decide) k_MA_103 rfl d_MA_doLeave_18 ?_
    refine lv_iload_n hx hb d_MA_doLeave_21 rfl (lv_at hl 2 rfl) ?_
    refine lv_dup2_11 hx hb d_MA_doLeave_22 rfl rfl ?_
    refine r_ild hx hb hC hP (28 + 2 * q) (by omega) (sh_F1 G _ hq) i rfl (by omega) (by decide) d_MA_doLeave_23 ?_
    refine lv_iconst (v := 1) hx hb d_MA_doLeave_24 (by decide) ?_
    refine lv_isub hx hb d_MA_doLeave_25 ?_
    refine r_ist hx hb hC hP hS (28 + 2 * q) (by omega) (fun r => sh_F1 G r hq) i rfl (by omega) (by decide) d_MA_doLeave_26 (fun H locs hP hS => ?_)
    refine lv_aload_n hx hb d_MA_doLeave_27 rfl (lv_at hl 0 rfl) ?_
    refine r_get hx hb hC hP i_MA (1) (by decide) rfl rfl 3 (by decide) l_MA_33 rfl d_MA_doLeave_28 ?_
    refine lv_iload_n hx hb d_MA_doLeave_31 rfl (lv_at hl 2 rfl) ?_
    refine lv_iconst (v := 1) hx hb d_MA_doLeave_32 (by decide) ?_
    refine r_v hC hS (r_runV (np := 2) (As := [.int (nI i), .int 1]) (rest := []) hx hb hml hC hP hS (by decide) rfl rfl (m_LO_release l G (su S (28 + 2 * q) i ((S (28 + 2 * q) i) - 1)) i (by omega) 1) l_MA_107 im_LO_release se_LO_release in_LO c_LO_release_in (by decide +kernel) ⟨by simp only [rmF]; omega, by simp only [rmF]; omega⟩ rfl hl.1 (Nat.le_of_ble_eq_true rfl) d_MA_doLeave_33 ⟨Nat.le_refl _, Nat.le_refl _⟩) (fun S_33 H locs hw hP hS => ?_)
    rw [hw] at hP
    refine r_enum hx hb hC hS 0 (by decide) l_MA_86 d_MA_doLeave_36 ?_
    exact e_e (post := fun e S1 => (e = if S (28 + 2 * q) i ≤ 0 then 4 else 0) ∧ S1 = if S (28 + 2 * q) i ≤ 0 then mRaise S n q 4 (-1) else mLeave S q i) hx hb hr hlk hC hP hS d_MA_doLeave_39 (by decide) ⟨by simp_all [Int32.not_le, Int32.not_lt], by first | exact (if_pos (by assumption)).symm | exact (if_neg (by assumption)).symm | exact (if_neg (Int32.not_le.mpr (by assumption))).symm | exact (if_pos (Int32.not_lt.mp (by assumption))).symm⟩
  · refine lv_aload_n hx hb d_MA_doLeave_9 rfl (lv_at hl 0 rfl) ?_
    refine lv_aload_n hx hb d_MA_doLeave_10 rfl (lv_at hl 1 rfl) ?_
    refine lv_iconst (v := 4) hx hb d_MA_doLeave_11 (by decide) ?_
    refine lv_iconst (v := (-1)) hx hb d_MA_doLeave_12 (by decide) ?_
    refine r_e (post := fun e S1 => e = 4 ∧ S1 = mRaise S n q 4 (-1)) hC hS (r_runV (np := 3) (As := [.ref (gA G (27 + 2 * q)), .int 4, .int (-1)]) (rest := []) hx hb hml hC hP hS (by decide) rfl rfl (m_MA_raise l G S n q (by omega) (by omega) hs 4 (-1)) l_MA_99 im_MA_raise se_MA_raise in_MA c_MA_raise_in (by decide +kernel) ⟨by simp only [rmF]; omega, by simp only [rmF]; omega⟩ rfl hl.1 (Nat.le_of_ble_eq_true rfl) d_MA_doLeave_13 ⟨Nat.le_refl _, Nat.le_refl _⟩) (fun i_13 S_13 H locs hi_13 hw hP hS => ?_)
    obtain ⟨rfl, hSe⟩ := hw
    rw [hSe] at hP
    exact e_e (post := fun e S1 => (e = if S (28 + 2 * q) i ≤ 0 then 4 else 0) ∧ S1 = if S (28 + 2 * q) i ≤ 0 then mRaise S n q 4 (-1) else mLeave S q i) hx hb hr hlk hC hP hS d_MA_doLeave_16 (by decide) ⟨by simp_all [Int32.not_le, Int32.not_lt], by first | exact (if_pos (by assumption)).symm | exact (if_neg (by assumption)).symm | exact (if_neg (Int32.not_le.mpr (by assumption))).symm | exact (if_pos (Int32.not_lt.mp (by assumption))).symm⟩

