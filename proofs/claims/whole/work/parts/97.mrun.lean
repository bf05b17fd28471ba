/-! the reference's check and run: written by wip/gen/p97.py -/
set_option maxHeartbeats 4000000 in
set_option maxRecDepth 100000 in
theorem m_MO_check (l : Launch) (G : WG) (S : SS) (nn : Nat → Nat) (htx : ∀ p, p < 4 → nn p ≤ 32 ∧ S 47 p = nI (nn p) ∧ ∀ j, j < nn p → S 45 (32 * p + j) = 9 → lkOK (S 46 (32 * p + j))) (p_ : Int32) : Ci l y_MO_check b_MO_check 2 (some (.int)) 3 G [.ref (gA G 44), .int p_] S (fun r S1 => (inB p_ 0 3 = false ∧ r = -1 ∧ S1 = S) ∨ ∃ p, p < 4 ∧ p_ = nI p ∧ ckM S p (nn p) r S1) := by
  refine mk l (by decide +kernel) (Nat.le_of_ble_eq_true rfl) ?_
  intro pp_ ee_ ss_ mm_ be_ me_ co_ ls hx hb hr hlk hml hC hP hS hl
  have hl : lv_has ls 2 [(0, .ref (gA G 44)), (1, .int p_)] := hl
  refine lv_iload_n hx hb d_MO_check_0 rfl (lv_at hl 1 rfl) ?_
  refine lv_iconst (v := 0) hx hb d_MO_check_1 (by decide) ?_
  refine lv_iconst (v := 3) hx hb d_MO_check_2 (by decide) ?_
  refine r_i hC hS (r_runS (np := 3) (As := [.int p_, .int 0, .int 3]) (rest := []) hx hb hml hC hP hS (m_MO_in l G S p_ 0 3) l_MO_50 st_MO_in in_MO c_MO_in_in (by decide +kernel) ⟨by simp only [rmF]; omega, by simp only [rmF]; omega⟩ rfl hl.1 (Nat.le_of_ble_eq_true rfl) d_MO_check_3 ⟨Nat.le_refl _, Nat.le_refl _⟩) (fun r_3 S_3 H locs hw hP hS => ?_)
  obtain ⟨rfl, hSe⟩ := hw
  rw [hSe] at hP
  refine lv_if_ne (tgt := 11) hx hb d_MO_check_6 (by decide) (fun c_6 => ?_) (fun c_6 => ?_)
  · have c_6 := b2i_t c_6
    obtain ⟨p, hp3, rfl⟩ := inB_nI (b := 3) (by omega) c_6
    have hp : p < 4 := by omega
    refine lv_aload_n hx hb d_MO_check_11 rfl (lv_at hl 0 rfl) ?_
    refine lv_iconst (v := (-1)) hx hb d_MO_check_12 (by decide) ?_
    refine r_put hx hb hC hP hS i_MO t_MO t_MO_ok n_MO (44) (by decide) rfl rfl 3 (by decide) l_MO_19 rfl rfl rfl (Nat.le_of_ble_eq_true rfl) d_MO_check_13 (fun H locs hP hS => ?_)
    refine lv_aload_n hx hb d_MO_check_16 rfl (lv_at hl 0 rfl) ?_
    refine lv_iload_n hx hb d_MO_check_17 rfl (lv_at hl 1 rfl) ?_
    refine r_i hC hS (r_runV (np := 1) (As := [.int (nI p)]) (rest := []) hx hb hml hC hP hS (by decide) rfl rfl (m_MO_good l G (su S 44 3 (-1)) p (nn p) hp (htx p hp).1 ((su_k _ _ (by omega)).trans (htx p hp).2.1) (fun j hj h9 => by rw [su_k _ _ (by omega)] at h9 ⊢; exact (htx p hp).2.2 j hj h9)) l_MO_76 im_MO_good se_MO_good in_MO c_MO_good_in (by decide +kernel) ⟨by simp only [rmF]; omega, by simp only [rmF]; omega⟩ rfl hl.1 (Nat.le_of_ble_eq_true rfl) d_MO_check_18 ⟨Nat.le_refl _, Nat.le_refl _⟩) (fun r_18 S_18 H locs hw hP hS => ?_)
    have hck := good_ck hw
    refine lv_if_eq (tgt := 28) hx hb d_MO_check_21 (by decide) (fun c_21 => ?_) (fun c_21 => ?_)
    · refine lv_bipush (v := (-3)) hx hb d_MO_check_28 (by decide) ?_
      exact e_i hx hb hr hlk hC hP hS d_MO_check_30 (Or.inr ⟨p, hp, rfl, by rcases hck with ⟨h1, _⟩ | ⟨_, h⟩; rw [h1] at c_21; exact absurd c_21 (by decide); exact h⟩)
    · refine lv_iconst (v := 0) hx hb d_MO_check_24 (by decide) ?_
      refine lv_goto (tgt := 30) hx hb d_MO_check_25 (by decide) ?_
      exact e_i hx hb hr hlk hC hP hS d_MO_check_30 (Or.inr ⟨p, hp, rfl, by rcases hck with ⟨_, h⟩ | ⟨h0, _⟩; exact h; exact absurd h0 c_21⟩)
  · have c_6 := b2i_f c_6
    refine lv_iconst (v := (-1)) hx hb d_MO_check_9 (by decide) ?_
    exact e_i hx hb hr hlk hC hP hS d_MO_check_10 (Or.inl ⟨by assumption, rfl, rfl⟩)

/-- from the head of the loop on -/
def RunQ (l : Launch) (G : WG) (pp_ : Program) (ee_ : Env) (ss_ : State) (mm_ : MethodId) (be_ : List Frame) (me_ : Method) (co_ : Code) (as : List Value) (post : Int32 → SS → Prop) (S : SS) : Prop := ∀ (H : Heap) (locs : List Loc) (ls : Array Slot), va_P (gD G) clsL (wl (gA G) 57 (fS G S)) H → va_S (AA G) ss_.heap H locs → lv_has ls 5 [(0, .ref (gA G 44))] → W pp_ l ee_ (rmF 6) ss_ mm_ as.toArray be_ me_ co_ H locs 0 0 (MQ be_ (va_Qi post (WD G) (AA G)) as.toArray ss_ 0 0 (AA G)) (F0 mm_ 128 ls [])
set_option maxHeartbeats 4000000 in
set_option maxRecDepth 100000 in
theorem m_MO_run_closeA (l : Launch) (G : WG) (p : Nat) (x ow : Int32) (post : Int32 → SS → Prop) {pp_ : Program} {ee_ : Env} {ss_ : State} {mm_ : MethodId} {be_ : List Frame} {me_ : Method} {co_ : Code} (hx : pp_.tables.exec = Jvm.exec) (hb : co_.code = b_MO_run) (hr : me_.sig.returnType = (some (.int))) (hlk : me_.locks = false) (hml : co_.maxLocals = 5) (hC : CC G "EndingsLabModel" ss_ mm_ ([.ref (gA G 44), .int (nI p), .int x, .int ow] : List Value).toArray (AA G)) (S T : SS) (D h : Nat) (hh : h ≤ 5) (hD : D < 79) (h8 : S 44 8 = nI (D + 1)) (hen : ¬ S 44 11 = 0) (hc : Cv l y_MO_close b_MO_close 5 h G [.ref (gA G 44)] S (fun S1 => S1 = T)) (hPT : RunQ l G pp_ ee_ ss_ mm_ be_ me_ co_ [.ref (gA G 44), .int (nI p), .int x, .int ow] post T) : RunQ l G pp_ ee_ ss_ mm_ be_ me_ co_ [.ref (gA G 44), .int (nI p), .int x, .int ow] post S := by
  intro H locs ls hP hS hl
  refine lv_aload_n hx hb d_MO_run_128 rfl (lv_at hl 0 rfl) ?_
  refine r_get hx hb hC hP i_MO (44) (by decide) rfl rfl 8 (by decide) l_MO_58 rfl d_MO_run_129 ?_
  rw [show S 44 8 = nI (D + 1) from h8]
  refine lv_if_le (tgt := 182) hx hb d_MO_run_132 (by decide) (fun c_132 => absurd c_132 (nI_nle (by omega) (by omega))) (fun c_132 => ?_)
  refine lv_aload_n hx hb d_MO_run_135 rfl (lv_at hl 0 rfl) ?_
  refine r_get hx hb hC hP i_MO (44) (by decide) rfl rfl 11 (by decide) l_MO_92 rfl d_MO_run_136 ?_
  refine lv_if_ne (tgt := 156) hx hb d_MO_run_139 (by decide) (fun c_139 => ?_) (fun c_139 => absurd c_139 hen)
  refine lv_aload_n hx hb d_MO_run_156 rfl (lv_at hl 0 rfl) ?_
  refine r_v hC hS (r_runV (np := 0) (As := []) (rest := []) hx hb hml hC hP hS (by decide) rfl rfl hc l_MO_167 im_MO_close se_MO_close in_MO c_MO_close_in (by decide +kernel) ⟨by simp only [rmF]; omega, by simp only [rmF]; omega⟩ rfl hl.1 (Nat.le_of_ble_eq_true rfl) d_MO_run_157 ⟨Nat.le_refl _, Nat.le_refl _⟩) (fun S_157 H locs hw hP hS => ?_)
  rw [hw] at hP
  refine lv_goto (tgt := 128) hx hb d_MO_run_160 (by decide) ?_
  exact hPT _ _ _ hP hS (lv_sub hl [0] rfl)

set_option maxHeartbeats 4000000 in
set_option maxRecDepth 100000 in
theorem m_MO_run_closeB (l : Launch) (G : WG) (p : Nat) (x ow : Int32) (post : Int32 → SS → Prop) {pp_ : Program} {ee_ : Env} {ss_ : State} {mm_ : MethodId} {be_ : List Frame} {me_ : Method} {co_ : Code} (hx : pp_.tables.exec = Jvm.exec) (hb : co_.code = b_MO_run) (hr : me_.sig.returnType = (some (.int))) (hlk : me_.locks = false) (hml : co_.maxLocals = 5) (hC : CC G "EndingsLabModel" ss_ mm_ ([.ref (gA G 44), .int (nI p), .int x, .int ow] : List Value).toArray (AA G)) (S T : SS) (D h : Nat) (hh : h ≤ 5) (hD : D < 79) (h8 : S 44 8 = nI (D + 1)) (i : Nat) (hi : i < 128) (h9 : S 44 9 = nI i) (h18 : S 45 i = 18) (hc : Cv l y_MO_close b_MO_close 5 h G [.ref (gA G 44)] S (fun S1 => S1 = T)) (hPT : RunQ l G pp_ ee_ ss_ mm_ be_ me_ co_ [.ref (gA G 44), .int (nI p), .int x, .int ow] post T) : RunQ l G pp_ ee_ ss_ mm_ be_ me_ co_ [.ref (gA G 44), .int (nI p), .int x, .int ow] post S := by
  intro H locs ls hP hS hl
  refine lv_aload_n hx hb d_MO_run_128 rfl (lv_at hl 0 rfl) ?_
  refine r_get hx hb hC hP i_MO (44) (by decide) rfl rfl 8 (by decide) l_MO_58 rfl d_MO_run_129 ?_
  rw [show S 44 8 = nI (D + 1) from h8]
  refine lv_if_le (tgt := 182) hx hb d_MO_run_132 (by decide) (fun c_132 => absurd c_132 (nI_nle (by omega) (by omega))) (fun c_132 => ?_)
  refine lv_aload_n hx hb d_MO_run_135 rfl (lv_at hl 0 rfl) ?_
  refine r_get hx hb hC hP i_MO (44) (by decide) rfl rfl 11 (by decide) l_MO_92 rfl d_MO_run_136 ?_
  refine lv_if_ne (tgt := 156) hx hb d_MO_run_139 (by decide) (fun c_139 => ?_) (fun c_139 => ?_)
  · refine lv_aload_n hx hb d_MO_run_156 rfl (lv_at hl 0 rfl) ?_
    refine r_v hC hS (r_runV (np := 0) (As := []) (rest := []) hx hb hml hC hP hS (by decide) rfl rfl hc l_MO_167 im_MO_close se_MO_close in_MO c_MO_close_in (by decide +kernel) ⟨by simp only [rmF]; omega, by simp only [rmF]; omega⟩ rfl hl.1 (Nat.le_of_ble_eq_true rfl) d_MO_run_157 ⟨Nat.le_refl _, Nat.le_refl _⟩) (fun S_157 H locs hw hP hS => ?_)
    rw [hw] at hP
    refine lv_goto (tgt := 128) hx hb d_MO_run_160 (by decide) ?_
    exact hPT _ _ _ hP hS (lv_sub hl [0] rfl)
  · refine lv_aload_n hx hb d_MO_run_142 rfl (lv_at hl 0 rfl) ?_
    refine r_get hx hb hC hP i_MO (44) (by decide) rfl rfl 0 (by decide) l_MO_7 rfl d_MO_run_143 ?_
    refine lv_aload_n hx hb d_MO_run_146 rfl (lv_at hl 0 rfl) ?_
    refine r_get hx hb hC hP i_MO (44) (by decide) rfl rfl 9 (by decide) l_MO_86 rfl d_MO_run_147 ?_
    rw [show S 44 9 = nI i from h9]
    refine r_ild hx hb hC hP (45) (by decide) rfl i rfl (by omega) (by decide) d_MO_run_150 ?_
    refine lv_bipush (v := 18) hx hb d_MO_run_151 (by decide) ?_
    refine lv_icmp_ne (tgt := 163) hx hb d_MO_run_153 (by decide) (fun c_153 => absurd h18 c_153) (fun c_153 => ?_)
    refine lv_aload_n hx hb d_MO_run_156 rfl (lv_at hl 0 rfl) ?_
    refine r_v hC hS (r_runV (np := 0) (As := []) (rest := []) hx hb hml hC hP hS (by decide) rfl rfl hc l_MO_167 im_MO_close se_MO_close in_MO c_MO_close_in (by decide +kernel) ⟨by simp only [rmF]; omega, by simp only [rmF]; omega⟩ rfl hl.1 (Nat.le_of_ble_eq_true rfl) d_MO_run_157 ⟨Nat.le_refl _, Nat.le_refl _⟩) (fun S_157 H locs hw hP hS => ?_)
    rw [hw] at hP
    refine lv_goto (tgt := 128) hx hb d_MO_run_160 (by decide) ?_
    exact hPT _ _ _ hP hS (lv_sub hl [0] rfl)

set_option maxHeartbeats 4000000 in
set_option maxRecDepth 100000 in
theorem m_MO_run_item (l : Launch) (G : WG) (p : Nat) (x ow : Int32) (post : Int32 → SS → Prop) {pp_ : Program} {ee_ : Env} {ss_ : State} {mm_ : MethodId} {be_ : List Frame} {me_ : Method} {co_ : Code} (hx : pp_.tables.exec = Jvm.exec) (hb : co_.code = b_MO_run) (hr : me_.sig.returnType = (some (.int))) (hlk : me_.locks = false) (hml : co_.maxLocals = 5) (hC : CC G "EndingsLabModel" ss_ mm_ ([.ref (gA G 44), .int (nI p), .int x, .int ow] : List Value).toArray (AA G)) (S T : SS) (D i st : Nat) (hD : D < 79) (h8 : S 44 8 = nI (D + 1)) (h11 : S 44 11 = 0) (hi : i < 128) (h9 : S 44 9 = nI i) (hn18 : ¬ S 45 i = 18) (hst : st < 300) (h19 : S 44 19 = nI st) (hc : Cv l y_MO_item b_MO_item 3 3 G [.ref (gA G 44)] S (fun S1 => S1 = T)) (hPT : RunQ l G pp_ ee_ ss_ mm_ be_ me_ co_ [.ref (gA G 44), .int (nI p), .int x, .int ow] post T) : RunQ l G pp_ ee_ ss_ mm_ be_ me_ co_ [.ref (gA G 44), .int (nI p), .int x, .int ow] post S := by
  intro H locs ls hP hS hl
  refine lv_aload_n hx hb d_MO_run_128 rfl (lv_at hl 0 rfl) ?_
  refine r_get hx hb hC hP i_MO (44) (by decide) rfl rfl 8 (by decide) l_MO_58 rfl d_MO_run_129 ?_
  rw [show S 44 8 = nI (D + 1) from h8]
  refine lv_if_le (tgt := 182) hx hb d_MO_run_132 (by decide) (fun c_132 => absurd c_132 (nI_nle (by omega) (by omega))) (fun c_132 => ?_)
  refine lv_aload_n hx hb d_MO_run_135 rfl (lv_at hl 0 rfl) ?_
  refine r_get hx hb hC hP i_MO (44) (by decide) rfl rfl 11 (by decide) l_MO_92 rfl d_MO_run_136 ?_
  refine lv_if_ne (tgt := 156) hx hb d_MO_run_139 (by decide) (fun c_139 => absurd h11 c_139) (fun c_139 => ?_)
  refine lv_aload_n hx hb d_MO_run_142 rfl (lv_at hl 0 rfl) ?_
  refine r_get hx hb hC hP i_MO (44) (by decide) rfl rfl 0 (by decide) l_MO_7 rfl d_MO_run_143 ?_
  refine lv_aload_n hx hb d_MO_run_146 rfl (lv_at hl 0 rfl) ?_
  refine r_get hx hb hC hP i_MO (44) (by decide) rfl rfl 9 (by decide) l_MO_86 rfl d_MO_run_147 ?_
  rw [show S 44 9 = nI i from h9]
  refine r_ild hx hb hC hP (45) (by decide) rfl i rfl (by omega) (by decide) d_MO_run_150 ?_
  refine lv_bipush (v := 18) hx hb d_MO_run_151 (by decide) ?_
  refine lv_icmp_ne (tgt := 163) hx hb d_MO_run_153 (by decide) (fun c_153 => ?_) (fun c_153 => absurd c_153 hn18)
  refine lv_aload_n hx hb d_MO_run_163 rfl (lv_at hl 0 rfl) ?_
  refine r_get hx hb hC hP i_MO (44) (by decide) rfl rfl 19 (by decide) l_MO_114 rfl d_MO_run_164 ?_
  rw [show S 44 19 = nI st from h19]
  refine lv_sipush (v := 300) hx hb d_MO_run_167 (by decide) ?_
  refine lv_icmp_ne (tgt := 175) hx hb d_MO_run_170 (by decide) (fun c_170 => ?_) (fun c_170 => absurd c_170 (fun h => absurd ((nI_eq (a := st) (b := 300) (by omega) (by decide)).mp h) (by omega)))
  refine lv_aload_n hx hb d_MO_run_175 rfl (lv_at hl 0 rfl) ?_
  refine r_v hC hS (r_runV (np := 0) (As := []) (rest := []) hx hb hml hC hP hS (by decide) rfl rfl hc l_MO_170 im_MO_item se_MO_item in_MO c_MO_item_in (by decide +kernel) ⟨by simp only [rmF]; omega, by simp only [rmF]; omega⟩ rfl hl.1 (Nat.le_of_ble_eq_true rfl) d_MO_run_176 ⟨Nat.le_refl _, Nat.le_refl _⟩) (fun S_176 H locs hw hP hS => ?_)
  rw [hw] at hP
  refine lv_goto (tgt := 128) hx hb d_MO_run_179 (by decide) ?_
  exact hPT _ _ _ hP hS (lv_sub hl [0] rfl)

theorem m_MO_run_stp (l : Launch) (G : WG) (p : Nat) (x ow : Int32) (post : Int32 → SS → Prop) {pp_ : Program} {ee_ : Env} {ss_ : State} {mm_ : MethodId} {be_ : List Frame} {me_ : Method} {co_ : Code} (hx : pp_.tables.exec = Jvm.exec) (hb : co_.code = b_MO_run) (hr : me_.sig.returnType = (some (.int))) (hlk : me_.locks = false) (hml : co_.maxLocals = 5) (hC : CC G "EndingsLabModel" ss_ mm_ ([.ref (gA G 44), .int (nI p), .int x, .int ow] : List Value).toArray (AA G)) : StpM l G (RunQ l G pp_ ee_ ss_ mm_ be_ me_ co_ [.ref (gA G 44), .int (nI p), .int x, .int ow] post) := by
  refine ⟨fun S T D h hh hD h8 hen hc hPT => ?_, fun S T D i st hD h8 h11 hi h9 hn18 hst h19 hc hPT => m_MO_run_item l G p x ow post hx hb hr hlk hml hC S T D i st hD h8 h11 hi h9 hn18 hst h19 hc hPT⟩
  rcases hen with hen | ⟨i, hi, h9, h18⟩
  · exact m_MO_run_closeA l G p x ow post hx hb hr hlk hml hC S T D h hh hD h8 hen hc hPT
  · exact m_MO_run_closeB l G p x ow post hx hb hr hlk hml hC S T D h hh hD h8 i hi h9 h18 hc hPT
set_option maxHeartbeats 4000000 in
set_option maxRecDepth 100000 in
theorem m_MO_run_late (l : Launch) (G : WG) (p : Nat) (x ow : Int32) (post : Int32 → SS → Prop) {pp_ : Program} {ee_ : Env} {ss_ : State} {mm_ : MethodId} {be_ : List Frame} {me_ : Method} {co_ : Code} (hx : pp_.tables.exec = Jvm.exec) (hb : co_.code = b_MO_run) (hr : me_.sig.returnType = (some (.int))) (hlk : me_.locks = false) (hml : co_.maxLocals = 5) (hC : CC G "EndingsLabModel" ss_ mm_ ([.ref (gA G 44), .int (nI p), .int x, .int ow] : List Value).toArray (AA G)) (S : SS) (D i : Nat) (hD : D < 79) (h8 : S 44 8 = nI (D + 1)) (h11 : S 44 11 = 0) (hi : i < 128) (h9 : S 44 9 = nI i) (hn18 : ¬ S 45 i = 18) (h19 : S 44 19 = nI 300) (hpost : post 2 S) : RunQ l G pp_ ee_ ss_ mm_ be_ me_ co_ [.ref (gA G 44), .int (nI p), .int x, .int ow] post S := by
  intro H locs ls hP hS hl
  refine lv_aload_n hx hb d_MO_run_128 rfl (lv_at hl 0 rfl) ?_
  refine r_get hx hb hC hP i_MO (44) (by decide) rfl rfl 8 (by decide) l_MO_58 rfl d_MO_run_129 ?_
  rw [show S 44 8 = nI (D + 1) from h8]
  refine lv_if_le (tgt := 182) hx hb d_MO_run_132 (by decide) (fun c_132 => absurd c_132 (nI_nle (by omega) (by omega))) (fun c_132 => ?_)
  refine lv_aload_n hx hb d_MO_run_135 rfl (lv_at hl 0 rfl) ?_
  refine r_get hx hb hC hP i_MO (44) (by decide) rfl rfl 11 (by decide) l_MO_92 rfl d_MO_run_136 ?_
  refine lv_if_ne (tgt := 156) hx hb d_MO_run_139 (by decide) (fun c_139 => absurd h11 c_139) (fun c_139 => ?_)
  refine lv_aload_n hx hb d_MO_run_142 rfl (lv_at hl 0 rfl) ?_
  refine r_get hx hb hC hP i_MO (44) (by decide) rfl rfl 0 (by decide) l_MO_7 rfl d_MO_run_143 ?_
  refine lv_aload_n hx hb d_MO_run_146 rfl (lv_at hl 0 rfl) ?_
  refine r_get hx hb hC hP i_MO (44) (by decide) rfl rfl 9 (by decide) l_MO_86 rfl d_MO_run_147 ?_
  rw [show S 44 9 = nI i from h9]
  refine r_ild hx hb hC hP (45) (by decide) rfl i rfl (by omega) (by decide) d_MO_run_150 ?_
  refine lv_bipush (v := 18) hx hb d_MO_run_151 (by decide) ?_
  refine lv_icmp_ne (tgt := 163) hx hb d_MO_run_153 (by decide) (fun c_153 => ?_) (fun c_153 => absurd c_153 hn18)
  refine lv_aload_n hx hb d_MO_run_163 rfl (lv_at hl 0 rfl) ?_
  refine r_get hx hb hC hP i_MO (44) (by decide) rfl rfl 19 (by decide) l_MO_114 rfl d_MO_run_164 ?_
  rw [show S 44 19 = nI 300 from h19]
  refine lv_sipush (v := 300) hx hb d_MO_run_167 (by decide) ?_
  refine lv_icmp_ne (tgt := 175) hx hb d_MO_run_170 (by decide) (fun c_170 => absurd rfl c_170) (fun c_170 => ?_)
  refine lv_iconst (v := 2) hx hb d_MO_run_173 (by decide) ?_
  exact e_i hx hb hr hlk hC hP hS d_MO_run_174 hpost

set_option maxHeartbeats 4000000 in
set_option maxRecDepth 100000 in
theorem m_MO_run_val (l : Launch) (G : WG) (p : Nat) (x ow : Int32) (post : Int32 → SS → Prop) {pp_ : Program} {ee_ : Env} {ss_ : State} {mm_ : MethodId} {be_ : List Frame} {me_ : Method} {co_ : Code} (hx : pp_.tables.exec = Jvm.exec) (hb : co_.code = b_MO_run) (hr : me_.sig.returnType = (some (.int))) (hlk : me_.locks = false) (hml : co_.maxLocals = 5) (hC : CC G "EndingsLabModel" ss_ mm_ ([.ref (gA G 44), .int (nI p), .int x, .int ow] : List Value).toArray (AA G)) (S : SS) (h8 : S 44 8 = 0) (h11 : S 44 11 = 0) (hpost : post 0 (su S 44 21 (S 44 10))) : RunQ l G pp_ ee_ ss_ mm_ be_ me_ co_ [.ref (gA G 44), .int (nI p), .int x, .int ow] post S := by
  intro H locs ls hP hS hl
  refine lv_aload_n hx hb d_MO_run_128 rfl (lv_at hl 0 rfl) ?_
  refine r_get hx hb hC hP i_MO (44) (by decide) rfl rfl 8 (by decide) l_MO_58 rfl d_MO_run_129 ?_
  rw [show S 44 8 = 0 from h8]
  refine lv_if_le (tgt := 182) hx hb d_MO_run_132 (by decide) (fun _ => ?_) (fun h => absurd h (by decide))
  refine lv_aload_n hx hb d_MO_run_182 rfl (lv_at hl 0 rfl) ?_
  refine r_get hx hb hC hP i_MO (44) (by decide) rfl rfl 11 (by decide) l_MO_92 rfl d_MO_run_183 ?_
  rw [show S 44 11 = 0 from h11]
  refine lv_iconst (v := 4) hx hb d_MO_run_186 (by decide) ?_
  refine lv_icmp_ne (tgt := 200) hx hb d_MO_run_187 (by decide) (fun _ => ?_) (fun h => absurd h (by decide))
  refine lv_aload_n hx hb d_MO_run_200 rfl (lv_at hl 0 rfl) ?_
  refine lv_aload_n hx hb d_MO_run_201 rfl (lv_at hl 0 rfl) ?_
  refine r_get hx hb hC hP i_MO (44) (by decide) rfl rfl 10 (by decide) l_MO_121 rfl d_MO_run_202 ?_
  refine r_put hx hb hC hP hS i_MO t_MO t_MO_ok n_MO (44) (by decide) rfl rfl 21 (by decide) l_MO_173 rfl rfl rfl (Nat.le_of_ble_eq_true rfl) d_MO_run_205 (fun H locs hP hS => ?_)
  refine lv_iconst (v := 0) hx hb d_MO_run_208 (by decide) ?_
  exact e_i hx hb hr hlk hC hP hS d_MO_run_209 hpost

set_option maxHeartbeats 4000000 in
set_option maxRecDepth 100000 in
theorem m_MO_run_flt (l : Launch) (G : WG) (p : Nat) (x ow : Int32) (post : Int32 → SS → Prop) {pp_ : Program} {ee_ : Env} {ss_ : State} {mm_ : MethodId} {be_ : List Frame} {me_ : Method} {co_ : Code} (hx : pp_.tables.exec = Jvm.exec) (hb : co_.code = b_MO_run) (hr : me_.sig.returnType = (some (.int))) (hlk : me_.locks = false) (hml : co_.maxLocals = 5) (hC : CC G "EndingsLabModel" ss_ mm_ ([.ref (gA G 44), .int (nI p), .int x, .int ow] : List Value).toArray (AA G)) (S : SS) (h8 : S 44 8 = 0) (h11 : S 44 11 = 4) (hpost : post 1 (su S 44 22 (S 44 12))) : RunQ l G pp_ ee_ ss_ mm_ be_ me_ co_ [.ref (gA G 44), .int (nI p), .int x, .int ow] post S := by
  intro H locs ls hP hS hl
  refine lv_aload_n hx hb d_MO_run_128 rfl (lv_at hl 0 rfl) ?_
  refine r_get hx hb hC hP i_MO (44) (by decide) rfl rfl 8 (by decide) l_MO_58 rfl d_MO_run_129 ?_
  rw [show S 44 8 = 0 from h8]
  refine lv_if_le (tgt := 182) hx hb d_MO_run_132 (by decide) (fun _ => ?_) (fun h => absurd h (by decide))
  refine lv_aload_n hx hb d_MO_run_182 rfl (lv_at hl 0 rfl) ?_
  refine r_get hx hb hC hP i_MO (44) (by decide) rfl rfl 11 (by decide) l_MO_92 rfl d_MO_run_183 ?_
  rw [show S 44 11 = 4 from h11]
  refine lv_iconst (v := 4) hx hb d_MO_run_186 (by decide) ?_
  refine lv_icmp_ne (tgt := 200) hx hb d_MO_run_187 (by decide) (fun h => absurd h (by decide)) (fun _ => ?_)
  refine lv_aload_n hx hb d_MO_run_190 rfl (lv_at hl 0 rfl) ?_
  refine lv_aload_n hx hb d_MO_run_191 rfl (lv_at hl 0 rfl) ?_
  refine r_get hx hb hC hP i_MO (44) (by decide) rfl rfl 12 (by decide) l_MO_95 rfl d_MO_run_192 ?_
  refine r_put hx hb hC hP hS i_MO t_MO t_MO_ok n_MO (44) (by decide) rfl rfl 22 (by decide) l_MO_164 rfl rfl rfl (Nat.le_of_ble_eq_true rfl) d_MO_run_195 (fun H locs hP hS => ?_)
  refine lv_iconst (v := 1) hx hb d_MO_run_198 (by decide) ?_
  exact e_i hx hb hr hlk hC hP hS d_MO_run_199 hpost

theorem m_MO_run_main (l : Launch) (G : WG) (S : SS) (nn : Nat → Nat) (htx : ∀ p, p < 4 → nn p ≤ 32 ∧ S 47 p = nI (nn p) ∧ ∀ j, j < nn p → S 45 (32 * p + j) = 9 → lkOK (S 46 (32 * p + j))) (op ar : Nat → Int32) (E : Nat → Nat) (F nv : Nat) (ev : Nat → Int32) (hF : 1032 ≤ F) (h24 : S 44 24 = nI nv) (hnv : nv + 300 ≤ 2 ^ 29) (hev : ∀ j, j < 32 → j < nv → S 56 j = ev (nv - 1 - j)) (hgo : GoM S nn op ar E) (p : Nat) (hp : p < 4) (x ow : Int32) {pp_ : Program} {ee_ : Env} {ss_ : State} {mm_ : MethodId} {be_ : List Frame} {me_ : Method} {co_ : Code} (hx : pp_.tables.exec = Jvm.exec) (hb : co_.code = b_MO_run) (hr : me_.sig.returnType = (some (.int))) (hlk : me_.locks = false) (hml : co_.maxLocals = 5) (hC : CC G "EndingsLabModel" ss_ mm_ ([.ref (gA G 44), .int (nI p), .int x, .int ow] : List Value).toArray (AA G)) (X : SS) (hX : RdM X S) (hall : ∀ j, j < 4 → jd nn p j → fwM S j (nn j) < 0) : RunQ l G pp_ ee_ ss_ mm_ be_ me_ co_ [.ref (gA G 44), .int (nI p), .int x, .int ow] (rmPost S nn op ar E F nv ev (nI p) x) (moBegin (moReset X x) 0 0 (nI p) x) := by
  obtain ⟨hn0, hTM, hV, hAll⟩ := hgo p hp hall
  obtain ⟨hA, h48, k1, k3, k21, k22⟩ := run_init (p := p) (x := x) hX h24 hnv hev
  have hTM5 := GoM.mv hTM (fun a b hab => k1 a b (by omega))
  generalize moBegin (moReset X x) 0 0 (nI p) x = S5 at hA h48 k1 k3 k21 k22 hTM5 ⊢
  obtain ⟨Fb, hbl⟩ := hAll p hp hn0
  have h32 := (htx p hp).1
  have hnb := sB_nb (op := op) (ar := ar) (E := E) (sz := nn) F Fb 5 false 0 0 (32 * p) _ (gInit nv ev, x, fun _ => 0) hbl
  have hstp := m_MO_run_stp (ee_ := ee_) (be_ := be_) l G p x ow (rmPost S nn op ar E F nv ev (nI p) x) hx hb hr hlk hml hC
  refine sim_all hstp hTM5 hV hAll F 0 p 5 0 0 false false Fb (32 * p) (32 * p + nn p - 1) S5 (gInit nv ev, x, fun _ => 0) (by decide) hp (by decide) (Nat.le_refl _) (by omega) (by decide) (by omega) hbl hA (fun T ho => ?_)
  have hres : ∀ r S1, PrM S S1 r (sFin (sB op ar E nn F 0 0 (32 * p) (gInit nv ev, x, fun _ => 0))) → rmPost S nn op ar E F nv ev (nI p) x r S1 := fun r S1 h => Or.inr ⟨p, hp, rfl, Or.inr ⟨hall, h⟩⟩
  generalize sB op ar E nn F 0 0 (32 * p) (gInit nv ev, x, fun _ => 0) = r at ho hnb hres
  rcases ho with ⟨h5, hl⟩ | ho
  · obtain ⟨l1, l2, l3, D, i, l4, l5, l6, l7, l8, l9⟩ := hl
    have hfin : sFin r = (5, 0, 0, r.2.2.2.1) := by
      unfold sFin
      rw [if_pos h5]
    rw [hfin] at hres
    exact m_MO_run_late l G p x ow _ hx hb hr hlk hml hC T D i l4 l5 l6 l7 l8 l9 (by rw [l2.1, l3]) (hres _ _ (run_late k1 k3 k21 k22 rfl l1 l2))
  · have f48 := (ho.2.2.2.2.1.1 48 0 (by decide) (by decide) (Nat.le_refl _)).trans h48
    obtain ⟨Y, hc, x1, x2, x3, x4, x5, x6⟩ := fin_cl (l := l) (G := G) ho hnb (by decide) (by decide) f48
    refine mcl hstp hTM5 hp (by omega) (by omega) (blk_end _ _ _ _ _ _ hbl).1 ho (by decide) (by decide) hc ?_
    rcases x6 with ⟨y1, y2, y3, y4⟩ | ⟨y1, y2, y3, y4, y5, y6⟩
    · exact m_MO_run_val l G p x ow _ hx hb hr hlk hml hC Y x3 y2 (hres _ _ (run_val k1 k3 k22 y1 x1 y3))
    · exact m_MO_run_flt l G p x ow _ hx hb hr hlk hml hC Y x3 y2 (hres _ _ (run_flt k1 k3 k21 y1 x1 y3 y4 y5))
set_option maxHeartbeats 4000000 in
set_option maxRecDepth 100000 in
theorem m_MO_run_loop (l : Launch) (G : WG) (S : SS) (nn : Nat → Nat) (htx : ∀ p, p < 4 → nn p ≤ 32 ∧ S 47 p = nI (nn p) ∧ ∀ j, j < nn p → S 45 (32 * p + j) = 9 → lkOK (S 46 (32 * p + j))) (op ar : Nat → Int32) (E : Nat → Nat) (F nv : Nat) (ev : Nat → Int32) (hF : 1032 ≤ F) (h24 : S 44 24 = nI nv) (hnv : nv + 300 ≤ 2 ^ 29) (hev : ∀ j, j < 32 → j < nv → S 56 j = ev (nv - 1 - j)) (hgo : GoM S nn op ar E) (p : Nat) (hp : p < 4) (x ow : Int32) {pp_ : Program} {ee_ : Env} {ss_ : State} {mm_ : MethodId} {be_ : List Frame} {me_ : Method} {co_ : Code} (hx : pp_.tables.exec = Jvm.exec) (hb : co_.code = b_MO_run) (hr : me_.sig.returnType = (some (.int))) (hlk : me_.locks = false) (hml : co_.maxLocals = 5) (hC : CC G "EndingsLabModel" ss_ mm_ ([.ref (gA G 44), .int (nI p), .int x, .int ow] : List Value).toArray (AA G)) :
    ∀ (f : Nat) (i : Nat) (X : SS), i ≤ 4 → 4 < i + f → RdM X S → (∀ j, j < i → jd nn p j → fwM S j (nn j) < 0) →  ∀ (H : Heap) (locs : List Loc) (ls : Array Slot), va_P (gD G) clsL (wl (gA G) 57 (fS G X)) H → va_S (AA G) ss_.heap H locs → lv_has ls 5 [(0, .ref (gA G 44)), (1, .int (nI p)), (2, .int x), (4, .int (nI i))] → W pp_ l ee_ (rmF 6) ss_ mm_ ([.ref (gA G 44), .int (nI p), .int x, .int ow] : List Value).toArray be_ me_ co_ H locs 0 0 (MQ be_ (va_Qi (rmPost S nn op ar E F nv ev (nI p) x) (WD G) (AA G)) ([.ref (gA G 44), .int (nI p), .int x, .int ow] : List Value).toArray ss_ 0 0 (AA G)) (F0 mm_ 19 ls []) := by
  intro f
  induction f with
  | zero =>
    intro i X hi4 hf hX hno H locs ls hP hS hl
    exact absurd hf (by omega)
  | succ f ih =>
    intro i X hi4 hf hX hno H locs ls hP hS hl
    refine lv_iload hx hb d_MO_run_19 (lv_at hl 3 rfl) ?_
    refine lv_iconst (v := 4) hx hb d_MO_run_21 (by decide) ?_
    refine lv_icmp_ge (tgt := 59) hx hb d_MO_run_22 (by decide) (fun c_22 => ?_) (fun c_22 => ?_)
    · have c_22 : 4 ≤ i := (q_le (a := 4) (b := i) rfl rfl (by omega) (by omega)).mp c_22
      have hall : ∀ j, j < 4 → jd nn p j → fwM S j (nn j) < 0 := fun j hj => hno j (by omega)
      refine lv_aload_n hx hb d_MO_run_59 rfl (lv_at hl 0 rfl) ?_
      refine lv_iconst (v := 0) hx hb d_MO_run_60 (by decide) ?_
      refine r_put hx hb hC hP hS i_MO t_MO t_MO_ok n_MO (44) (by decide) rfl rfl 8 (by decide) l_MO_58 rfl rfl rfl (Nat.le_of_ble_eq_true rfl) d_MO_run_61 (fun H locs hP hS => ?_)
      refine lv_aload_n hx hb d_MO_run_64 rfl (lv_at hl 0 rfl) ?_
      refine lv_iconst (v := 0) hx hb d_MO_run_65 (by decide) ?_
      refine r_put hx hb hC hP hS i_MO t_MO t_MO_ok n_MO (44) (by decide) rfl rfl 13 (by decide) l_MO_111 rfl rfl rfl (Nat.le_of_ble_eq_true rfl) d_MO_run_66 (fun H locs hP hS => ?_)
      refine lv_aload_n hx hb d_MO_run_69 rfl (lv_at hl 0 rfl) ?_
      refine lv_iconst (v := 0) hx hb d_MO_run_70 (by decide) ?_
      refine r_put hx hb hC hP hS i_MO t_MO t_MO_ok n_MO (44) (by decide) rfl rfl 18 (by decide) l_MO_89 rfl rfl rfl (Nat.le_of_ble_eq_true rfl) d_MO_run_71 (fun H locs hP hS => ?_)
      refine lv_aload_n hx hb d_MO_run_74 rfl (lv_at hl 0 rfl) ?_
      refine lv_iconst (v := 0) hx hb d_MO_run_75 (by decide) ?_
      refine r_put hx hb hC hP hS i_MO t_MO t_MO_ok n_MO (44) (by decide) rfl rfl 19 (by decide) l_MO_114 rfl rfl rfl (Nat.le_of_ble_eq_true rfl) d_MO_run_76 (fun H locs hP hS => ?_)
      refine lv_aload_n hx hb d_MO_run_79 rfl (lv_at hl 0 rfl) ?_
      refine lv_iconst (v := 0) hx hb d_MO_run_80 (by decide) ?_
      refine r_put hx hb hC hP hS i_MO t_MO t_MO_ok n_MO (44) (by decide) rfl rfl 20 (by decide) l_MO_104 rfl rfl rfl (Nat.le_of_ble_eq_true rfl) d_MO_run_81 (fun H locs hP hS => ?_)
      refine lv_aload_n hx hb d_MO_run_84 rfl (lv_at hl 0 rfl) ?_
      refine lv_iconst (v := 0) hx hb d_MO_run_85 (by decide) ?_
      refine r_put hx hb hC hP hS i_MO t_MO t_MO_ok n_MO (44) (by decide) rfl rfl 22 (by decide) l_MO_164 rfl rfl rfl (Nat.le_of_ble_eq_true rfl) d_MO_run_86 (fun H locs hP hS => ?_)
      refine lv_aload_n hx hb d_MO_run_89 rfl (lv_at hl 0 rfl) ?_
      refine lv_iconst (v := 0) hx hb d_MO_run_90 (by decide) ?_
      refine r_put hx hb hC hP hS i_MO t_MO t_MO_ok n_MO (44) (by decide) rfl rfl 11 (by decide) l_MO_92 rfl rfl rfl (Nat.le_of_ble_eq_true rfl) d_MO_run_91 (fun H locs hP hS => ?_)
      refine lv_aload_n hx hb d_MO_run_94 rfl (lv_at hl 0 rfl) ?_
      refine lv_iload_n hx hb d_MO_run_95 rfl (lv_at hl 2 rfl) ?_
      refine r_put hx hb hC hP hS i_MO t_MO t_MO_ok n_MO (44) (by decide) rfl rfl 10 (by decide) l_MO_121 rfl rfl rfl (Nat.le_of_ble_eq_true rfl) d_MO_run_96 (fun H locs hP hS => ?_)
      refine lv_iconst (v := 0) hx hb d_MO_run_99 (by decide) ?_
      refine lv_istore (lv' := [(4, .int 0), (0, .ref (gA G 44)), (1, .int (nI p)), (2, .int x)]) hx hb d_MO_run_100 hl (by decide) rfl (fun ls hl => ?_)
      refine lv_iload hx hb d_MO_run_102 (lv_at hl 0 rfl) ?_
      refine lv_iconst (v := 3) hx hb d_MO_run_104 (by decide) ?_
      refine lv_icmp_ge (tgt := 122) hx hb d_MO_run_105 (by decide) (fun h => absurd h (by decide)) (fun _ => ?_)
      refine lv_aload_n hx hb d_MO_run_108 rfl (lv_at hl 1 rfl) ?_
      refine r_get hx hb hC hP i_MO (44) (by decide) rfl rfl 15 (by decide) l_MO_38 rfl d_MO_run_109 ?_
      refine lv_iload hx hb d_MO_run_112 (lv_at hl 0 rfl) ?_
      refine lv_iconst (v := 0) hx hb d_MO_run_114 (by decide) ?_
      refine r_ist hx hb hC hP hS (53) (by decide) (fun _ => rfl) 0 rfl (by decide) (by decide) d_MO_run_115 (fun H locs hP hS => ?_)
      refine lv_iinc (v := 1) (lv' := [(4, .int 1), (0, .ref (gA G 44)), (1, .int (nI p)), (2, .int x)]) hx hb d_MO_run_116 hl (k := 0) rfl (by decide) (by decide) rfl (fun ls hl => ?_)
      refine lv_goto (tgt := 102) hx hb d_MO_run_119 (by decide) ?_
      refine lv_iload hx hb d_MO_run_102 (lv_at hl 0 rfl) ?_
      refine lv_iconst (v := 3) hx hb d_MO_run_104 (by decide) ?_
      refine lv_icmp_ge (tgt := 122) hx hb d_MO_run_105 (by decide) (fun h => absurd h (by decide)) (fun _ => ?_)
      refine lv_aload_n hx hb d_MO_run_108 rfl (lv_at hl 1 rfl) ?_
      refine r_get hx hb hC hP i_MO (44) (by decide) rfl rfl 15 (by decide) l_MO_38 rfl d_MO_run_109 ?_
      refine lv_iload hx hb d_MO_run_112 (lv_at hl 0 rfl) ?_
      refine lv_iconst (v := 0) hx hb d_MO_run_114 (by decide) ?_
      refine r_ist hx hb hC hP hS (53) (by decide) (fun _ => rfl) 1 rfl (by decide) (by decide) d_MO_run_115 (fun H locs hP hS => ?_)
      refine lv_iinc (v := 2) (lv' := [(4, .int 2), (0, .ref (gA G 44)), (1, .int (nI p)), (2, .int x)]) hx hb d_MO_run_116 hl (k := 0) rfl (by decide) (by decide) rfl (fun ls hl => ?_)
      refine lv_goto (tgt := 102) hx hb d_MO_run_119 (by decide) ?_
      refine lv_iload hx hb d_MO_run_102 (lv_at hl 0 rfl) ?_
      refine lv_iconst (v := 3) hx hb d_MO_run_104 (by decide) ?_
      refine lv_icmp_ge (tgt := 122) hx hb d_MO_run_105 (by decide) (fun h => absurd h (by decide)) (fun _ => ?_)
      refine lv_aload_n hx hb d_MO_run_108 rfl (lv_at hl 1 rfl) ?_
      refine r_get hx hb hC hP i_MO (44) (by decide) rfl rfl 15 (by decide) l_MO_38 rfl d_MO_run_109 ?_
      refine lv_iload hx hb d_MO_run_112 (lv_at hl 0 rfl) ?_
      refine lv_iconst (v := 0) hx hb d_MO_run_114 (by decide) ?_
      refine r_ist hx hb hC hP hS (53) (by decide) (fun _ => rfl) 2 rfl (by decide) (by decide) d_MO_run_115 (fun H locs hP hS => ?_)
      refine lv_iinc (v := 3) (lv' := [(4, .int 3), (0, .ref (gA G 44)), (1, .int (nI p)), (2, .int x)]) hx hb d_MO_run_116 hl (k := 0) rfl (by decide) (by decide) rfl (fun ls hl => ?_)
      refine lv_goto (tgt := 102) hx hb d_MO_run_119 (by decide) ?_
      refine lv_iload hx hb d_MO_run_102 (lv_at hl 0 rfl) ?_
      refine lv_iconst (v := 3) hx hb d_MO_run_104 (by decide) ?_
      refine lv_icmp_ge (tgt := 122) hx hb d_MO_run_105 (by decide) (fun _ => ?_) (fun h => absurd h (by decide))
      refine lv_aload_n hx hb d_MO_run_122 rfl (lv_at hl 1 rfl) ?_
      refine lv_iload_n hx hb d_MO_run_123 rfl (lv_at hl 2 rfl) ?_
      refine lv_iload_n hx hb d_MO_run_124 rfl (lv_at hl 3 rfl) ?_
      refine r_v hC hS (r_runV (np := 2) (As := [.int (nI p), .int x]) (rest := []) hx hb hml hC hP hS (by decide) rfl rfl (m_MO_begin l G (su (su (su (su (su (su (su (su (su (su (su X 44 8 0) 44 13 0) 44 18 0) 44 19 0) 44 20 0) 44 22 0) 44 11 0) 44 10 x) 53 0 0) 53 1 0) 53 2 0) 0 0 (by omega) (moReset_0 X x (b := 8) (by omega)) (by omega) (moReset_0 X x (b := 13) (by omega)) (nI p) x) l_MO_140 im_MO_begin se_MO_begin in_MO c_MO_begin_in (by decide +kernel) ⟨by simp only [rmF]; omega, by simp only [rmF]; omega⟩ rfl hl.1 (Nat.le_of_ble_eq_true rfl) d_MO_run_125 ⟨Nat.le_refl _, Nat.le_refl _⟩) (fun S_125 H locs hw hP hS => ?_)
      rw [hw] at hP
      exact m_MO_run_main l G S nn htx op ar E F nv ev hF h24 hnv hev hgo p hp x ow hx hb hr hlk hml hC X hX hall _ _ _ hP hS (lv_sub hl [1] rfl)
    · have c_22 : ¬ 4 ≤ i := fun h => c_22 ((q_le (a := 4) (b := i) rfl rfl (by omega) (by omega)).mpr h)
      have hi : i < 4 := by omega
      have h32 := (htx i hi).1
      refine lv_aload_n hx hb d_MO_run_25 rfl (lv_at hl 0 rfl) ?_
      refine r_get hx hb hC hP i_MO (44) (by decide) rfl rfl 2 (by decide) l_MO_16 rfl d_MO_run_26 ?_
      refine lv_iload hx hb d_MO_run_29 (lv_at hl 3 rfl) ?_
      refine r_ild hx hb hC hP (47) (by decide) rfl i rfl (by omega) (by decide) d_MO_run_31 ?_
      rw [show X 47 i = nI (nn i) from ((hX.1 47 i (by omega)).trans (htx i hi).2.1)]
      refine lv_if_gt (tgt := 41) hx hb d_MO_run_32 (by decide) (fun c_32 => ?_) (fun c_32 => ?_)
      · have c_32 : 0 < nn i := (q_lt (a := 0) (b := nn i) rfl rfl (by omega) (by omega)).mp c_32
        have hjd : jd nn p i := Or.inr (by omega)
        refine lv_aload_n hx hb d_MO_run_41 rfl (lv_at hl 0 rfl) ?_
        refine lv_iload hx hb d_MO_run_42 (lv_at hl 3 rfl) ?_
        refine r_i hC hS (r_runV (np := 1) (As := [.int (nI i)]) (rest := []) hx hb hml hC hP hS (by decide) rfl rfl (m_MO_good l G X i (nn i) hi h32 ((hX.1 _ _ (by omega)).trans (htx i hi).2.1) (fun j hj h9 => by rw [hX.1 _ _ (by omega)] at h9 ⊢; exact (htx i hi).2.2 j hj h9)) l_MO_76 im_MO_good se_MO_good in_MO c_MO_good_in (by decide +kernel) ⟨by simp only [rmF]; omega, by simp only [rmF]; omega⟩ rfl hl.1 (Nat.le_of_ble_eq_true rfl) d_MO_run_44 ⟨Nat.le_refl _, Nat.le_refl _⟩) (fun r_44 S_44 H locs hw hP hS => ?_)
        have hgd := hX.good hw
        refine lv_if_ne (tgt := 53) hx hb d_MO_run_47 (by decide) (fun c_47 => ?_) (fun c_47 => ?_)
        · obtain ⟨-, hg1, hg2⟩ : r_44 = 1 ∧ fwM S i (nn i) < 0 ∧ RdM S_44 S := by rcases hgd with h | ⟨h0, -⟩; exact h; exact absurd h0 c_47
          refine lv_iinc (v := nI (i + 1)) (lv' := [(4, .int (nI (i + 1))), (0, .ref (gA G 44)), (1, .int (nI p)), (2, .int x)]) hx hb d_MO_run_53 hl (k := 3) rfl (nI_1 _) (by decide) rfl (fun ls hl => ?_)
          refine lv_goto (tgt := 19) hx hb d_MO_run_56 (by decide) ?_
          exact ih (i + 1) _ (by omega) (by omega) hg2 (fun j hj hjj => (Nat.lt_or_ge j i).elim (fun h => hno j h hjj) (fun h => by rw [show j = i by omega]; exact hg1)) _ _ _ hP hS (lv_sub hl [1, 2, 3, 0] rfl)
        · obtain ⟨-, hg1, hg2, hg3⟩ : r_44 = 0 ∧ ¬ fwM S i (nn i) < 0 ∧ KpR S_44 S ∧ S_44 44 3 = 32 * nI i + fwM S i (nn i) := by rcases hgd with ⟨h1, -⟩ | h; rw [h1] at c_47; exact absurd c_47 (by decide); exact h
          refine lv_bipush (v := (-3)) hx hb d_MO_run_50 (by decide) ?_
          exact e_i hx hb hr hlk hC hP hS d_MO_run_52 (Or.inr ⟨p, hp, rfl, Or.inl ⟨i, hi, hjd, hg1, hno, rfl, hg3, hg2⟩⟩)
      · have c_32 : ¬ 0 < nn i := fun h => c_32 ((q_lt (a := 0) (b := nn i) rfl rfl (by omega) (by omega)).mpr h)
        refine lv_iload hx hb d_MO_run_35 (lv_at hl 3 rfl) ?_
        refine lv_iload_n hx hb d_MO_run_37 rfl (lv_at hl 1 rfl) ?_
        refine lv_icmp_ne (tgt := 53) hx hb d_MO_run_38 (by decide) (fun c_38 => ?_) (fun c_38 => ?_)
        · have c_38 : ¬ i = p := fun h => c_38 ((q_eq (a := i) (b := p) rfl rfl (by omega) (by omega)).mpr h)
          refine lv_iinc (v := nI (i + 1)) (lv' := [(4, .int (nI (i + 1))), (0, .ref (gA G 44)), (1, .int (nI p)), (2, .int x)]) hx hb d_MO_run_53 hl (k := 3) rfl (nI_1 _) (by decide) rfl (fun ls hl => ?_)
          refine lv_goto (tgt := 19) hx hb d_MO_run_56 (by decide) ?_
          exact ih (i + 1) _ (by omega) (by omega) hX (fun j hj hjj => (Nat.lt_or_ge j i).elim (fun h => hno j h hjj) (fun h => by rw [show j = i by omega] at hjj; exact absurd hjj (fun h2 => h2.elim c_38 (fun h3 => absurd h3 (by omega))))) _ _ _ hP hS (lv_sub hl [1, 2, 3, 0] rfl)
        · have c_38 : i = p := (q_eq (a := i) (b := p) rfl rfl (by omega) (by omega)).mp c_38
          have hjd : jd nn p i := Or.inl c_38
          refine lv_aload_n hx hb d_MO_run_41 rfl (lv_at hl 0 rfl) ?_
          refine lv_iload hx hb d_MO_run_42 (lv_at hl 3 rfl) ?_
          refine r_i hC hS (r_runV (np := 1) (As := [.int (nI i)]) (rest := []) hx hb hml hC hP hS (by decide) rfl rfl (m_MO_good l G X i (nn i) hi h32 ((hX.1 _ _ (by omega)).trans (htx i hi).2.1) (fun j hj h9 => by rw [hX.1 _ _ (by omega)] at h9 ⊢; exact (htx i hi).2.2 j hj h9)) l_MO_76 im_MO_good se_MO_good in_MO c_MO_good_in (by decide +kernel) ⟨by simp only [rmF]; omega, by simp only [rmF]; omega⟩ rfl hl.1 (Nat.le_of_ble_eq_true rfl) d_MO_run_44 ⟨Nat.le_refl _, Nat.le_refl _⟩) (fun r_44 S_44 H locs hw hP hS => ?_)
          have hgd := hX.good hw
          refine lv_if_ne (tgt := 53) hx hb d_MO_run_47 (by decide) (fun c_47 => ?_) (fun c_47 => ?_)
          · obtain ⟨-, hg1, hg2⟩ : r_44 = 1 ∧ fwM S i (nn i) < 0 ∧ RdM S_44 S := by rcases hgd with h | ⟨h0, -⟩; exact h; exact absurd h0 c_47
            refine lv_iinc (v := nI (i + 1)) (lv' := [(4, .int (nI (i + 1))), (0, .ref (gA G 44)), (1, .int (nI p)), (2, .int x)]) hx hb d_MO_run_53 hl (k := 3) rfl (nI_1 _) (by decide) rfl (fun ls hl => ?_)
            refine lv_goto (tgt := 19) hx hb d_MO_run_56 (by decide) ?_
            exact ih (i + 1) _ (by omega) (by omega) hg2 (fun j hj hjj => (Nat.lt_or_ge j i).elim (fun h => hno j h hjj) (fun h => by rw [show j = i by omega]; exact hg1)) _ _ _ hP hS (lv_sub hl [1, 2, 3, 0] rfl)
          · obtain ⟨-, hg1, hg2, hg3⟩ : r_44 = 0 ∧ ¬ fwM S i (nn i) < 0 ∧ KpR S_44 S ∧ S_44 44 3 = 32 * nI i + fwM S i (nn i) := by rcases hgd with ⟨h1, -⟩ | h; rw [h1] at c_47; exact absurd c_47 (by decide); exact h
            refine lv_bipush (v := (-3)) hx hb d_MO_run_50 (by decide) ?_
            exact e_i hx hb hr hlk hC hP hS d_MO_run_52 (Or.inr ⟨p, hp, rfl, Or.inl ⟨i, hi, hjd, hg1, hno, rfl, hg3, hg2⟩⟩)

set_option maxHeartbeats 4000000 in
set_option maxRecDepth 100000 in
theorem m_MO_run (l : Launch) (G : WG) (S : SS) (nn : Nat → Nat) (htx : ∀ p, p < 4 → nn p ≤ 32 ∧ S 47 p = nI (nn p) ∧ ∀ j, j < nn p → S 45 (32 * p + j) = 9 → lkOK (S 46 (32 * p + j))) (op ar : Nat → Int32) (E : Nat → Nat) (F nv : Nat) (ev : Nat → Int32) (hF : 1032 ≤ F) (h24 : S 44 24 = nI nv) (hnv : nv + 300 ≤ 2 ^ 29) (hev : ∀ j, j < 32 → j < nv → S 56 j = ev (nv - 1 - j)) (hgo : GoM S nn op ar E) (p_ x ow : Int32) : Ci l y_MO_run b_MO_run 5 (some (.int)) 6 G [.ref (gA G 44), .int p_, .int x, .int ow] S (rmPost S nn op ar E F nv ev p_ x) := by
  refine mk l (by decide +kernel) (Nat.le_of_ble_eq_true rfl) ?_
  intro pp_ ee_ ss_ mm_ be_ me_ co_ ls hx hb hr hlk hml hC hP hS hl
  have hl : lv_has ls 5 [(0, .ref (gA G 44)), (1, .int p_), (2, .int x), (3, .int ow)] := hl
  refine lv_iload_n hx hb d_MO_run_0 rfl (lv_at hl 1 rfl) ?_
  refine lv_iconst (v := 0) hx hb d_MO_run_1 (by decide) ?_
  refine lv_iconst (v := 3) hx hb d_MO_run_2 (by decide) ?_
  refine r_i hC hS (r_runS (np := 3) (As := [.int p_, .int 0, .int 3]) (rest := []) hx hb hml hC hP hS (m_MO_in l G S p_ 0 3) l_MO_50 st_MO_in in_MO c_MO_in_in (by decide +kernel) ⟨by simp only [rmF]; omega, by simp only [rmF]; omega⟩ rfl hl.1 (Nat.le_of_ble_eq_true rfl) d_MO_run_3 ⟨Nat.le_refl _, Nat.le_refl _⟩) (fun r_3 S_3 H locs hw hP hS => ?_)
  obtain ⟨rfl, hSe⟩ := hw
  rw [hSe] at hP
  refine lv_if_ne (tgt := 11) hx hb d_MO_run_6 (by decide) (fun c_6 => ?_) (fun c_6 => ?_)
  · have c_6 := b2i_t c_6
    obtain ⟨p, hp3, rfl⟩ := inB_nI (b := 3) (by omega) c_6
    have hp : p < 4 := by omega
    refine lv_aload_n hx hb d_MO_run_11 rfl (lv_at hl 0 rfl) ?_
    refine lv_iconst (v := (-1)) hx hb d_MO_run_12 (by decide) ?_
    refine r_put hx hb hC hP hS i_MO t_MO t_MO_ok n_MO (44) (by decide) rfl rfl 3 (by decide) l_MO_19 rfl rfl rfl (Nat.le_of_ble_eq_true rfl) d_MO_run_13 (fun H locs hP hS => ?_)
    refine lv_iconst (v := 0) hx hb d_MO_run_16 (by decide) ?_
    refine lv_istore (lv' := [(4, .int 0), (0, .ref (gA G 44)), (1, .int (nI p)), (2, .int x), (3, .int ow)]) hx hb d_MO_run_17 hl (by decide) rfl (fun ls hl => ?_)
    exact m_MO_run_loop l G S nn htx op ar E F nv ev hF h24 hnv hev hgo p hp x ow hx hb hr hlk hml hC 5 0 _ (by omega) (by omega) ⟨fun a b hab => su_k _ _ (by omega), su_same _ _ _ _⟩ (fun j hj => absurd hj (by omega)) _ _ _ hP hS (lv_sub hl [1, 2, 3, 0] rfl)
  · have c_6 := b2i_f c_6
    refine lv_iconst (v := (-1)) hx hb d_MO_run_9 (by decide) ?_
    exact e_i hx hb hr hlk hC hP hS d_MO_run_10 (Or.inl ⟨by assumption, rfl, rfl⟩)

