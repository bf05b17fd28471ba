/-! the law: its frame as the skeleton has it; its loop, written by wip/gen/p98.py -/
/-! THE CLAIM OUT OF ONE WALK OF THE LAW'S BODY. Your part is whole_start (and what it stands on); all else here is the same for every law, but numbers. -/
def R_law : String := "EndingsLabLaw"
def lw_P (b : Addr) (xs : List Int32) (args : Array Value) (s : State) : Prop := args = #[.ref b] ∧ s.IntsAt b xs ∧ xs.length ≤ 2048 ∧ (Jvm.Cond.and given_1 narrow_1).before args s = true
def lw_Q (_ : Array Value) (s : State) (o : Outcome) (t : State) : Prop := o = .returned (some (.int 1)) ∧ Framed s o t [] 600000 7302250
def lw_Z (below : List Frame) (a : Array Value) (s : State) : State → Prop := fun t => ∃ o, t.status = .running ∧ Ended t below o ∧ lw_Q a s o t
/-- the law's own end, with 1 on the stack, nothing written that was there before, its room as the claim has it -/
theorem lw_ret {p : Program} {l : Launch} {e : Env} {s : State} {m : MethodId} {below : List Frame} {meth : Method} {c : Code} {b : Nat} (hx : p.tables.exec = Jvm.exec) (hb : c.code = code) (hr : meth.sig.returnType = ret) (hlocks : meth.locks = false) {pc : Nat} {H : Heap} {ls : Array Slot} (hdg : decode code pc = .ok (.ireturn, 1)) : W p l e room_1 s m #[Value.ref b] below meth c H [] 600000 7302250 (lw_Z below #[Value.ref b] s) (F0 m pc ls [.int 1]) := by
  intro T hT X
  obtain ⟨fs, hret, hrun, hended, hW, hframe⟩ := X.leave (v := some (.int 1)) (hlocks := hlocks) (fun h => by rw [hr] at h; cases h)
  have hmeth' : T.vm.method? m = some meth := X.method'
  refine ⟨T.setFrames fs, ?_, .returned (some (.int 1)), hrun, hended, rfl, ⟨_, rfl⟩, hW, hframe⟩
  jvm_step X.here [X.here.top, hx, hb, hdg, hmeth', hr, ret, narrow_b1]
  (try refine ⟨rfl, ?_⟩); (try refine ⟨rfl, ?_⟩)
  first | (intro acts; rw [hret _ acts rfl rfl rfl]) | rw [hret _ _ rfl rfl rfl]
  exact Steps.refl _
/-- what holds at the law's entry: the machine, the code, the tables' words (any of lw_tbl by 'hts w (by decide +kernel)'), the script of L ints xs at the cell b, what the Statement gives of the start (any of its parts by flat_of_before) -/
def lw_At (p : Program) (s : State) (m : MethodId) (meth : Method) (c : Code) (b L : Nat) (xs : Nat → Int32) : Prop :=
  p.tables.exec = Jvm.exec ∧ c.code = code ∧ meth.sig.returnType = ret ∧ c.maxLocals = 4 ∧ s.vm.findClass R_law = some m.cls ∧ (∀ w ∈ lw_tbl, w.before #[Value.ref b] s = true) ∧ va_X b L xs s s.heap ∧ b < s.heap.size ∧ meth.locks = false ∧ (Jvm.Cond.and given_1 narrow_1).before #[Value.ref b] s = true
theorem l4 {L i : Nat} (hL : L ≤ 2048) (hi : i ≤ 2052) (h : ¬ (Int32.ofNat L - 4 < nI i)) : i + 4 ≤ L := by
  have h0 : 0 ≤ nI i := nI_pos' (by omega)
  rcases Nat.lt_or_ge L 4 with h4 | h4
  · exfalso
    apply h
    rcases (show L = 0 ∨ L = 1 ∨ L = 2 ∨ L = 3 by omega) with rfl | rfl | rfl | rfl
    · exact Int32.lt_of_lt_of_le (show Int32.ofNat 0 - 4 < 0 by decide) h0
    · exact Int32.lt_of_lt_of_le (show Int32.ofNat 1 - 4 < 0 by decide) h0
    · exact Int32.lt_of_lt_of_le (show Int32.ofNat 2 - 4 < 0 by decide) h0
    · exact Int32.lt_of_lt_of_le (show Int32.ofNat 3 - 4 < 0 by decide) h0
  · have e : Int32.ofNat L - 4 = nI (L - 4) := pk_sub (a := L) (b := 4) h4
    rw [e] at h
    have h2 : ¬ L - 4 < i := fun hx => h ((nI_ltI (by omega) (by omega)).mpr hx)
    omega
theorem cz_b {c j : Nat} (h : c ≤ j) (hj : j < 2 ^ 31) : -1 ≤ nI c - 1 ∧ nI c - 1 < nI j := by
  rcases Nat.eq_zero_or_pos c with rfl | h0
  · exact ⟨by decide, Int32.lt_of_lt_of_le (show nI 0 - 1 < 0 by decide) (nI_pos' hj)⟩
  · rw [nI_dec h0]
    exact ⟨Int32.le_trans (show (-1 : Int32) ≤ 0 by decide) (nI_pos' (by omega)), (nI_ltI (by omega) hj).mpr (by omega)⟩
theorem m_MO_faultA (l : Launch) (G : WG) (S : SS) (n r : Nat) (cs : Nat → Nat) (hn : n ≤ 600) (hrn : r ≤ n) (hs : S 44 22 = nI r) (hc : ∀ j, 0 < j → j ≤ n → cs j < j) (hcs : ∀ j, 0 < j → j ≤ n → S 55 j = nI (cs j)) (k : Int32) : Ci l y_MO_fault b_MO_fault 4 (some (.int)) 0 G [.ref (gA G 44), .int k] S (fun x S1 => x = moFa S cs r k ∧ S1 = S) := by
  by_cases hk : k < 0
  · rw [show moFa S cs r k = -1 from if_pos hk]
    exact m_MO_faultN l G S k hk
  · obtain ⟨kk, hkk, rfl⟩ := nI_of hk
    exact m_MO_fault l G S n r cs hn hrn hs hc hcs kk hkk
theorem i4 (i k : Nat) : nI i + nI k = nI (i + k) := nI_add i k
set_option maxHeartbeats 4000000 in
set_option maxRecDepth 100000 in
theorem law_token {p : Program} {e : Env} {s : State} {m : MethodId} {below : List Frame} {meth : Method} {c : Code} (l : Launch) {b L : Nat} {xs : Nat → Int32} (hL : L ≤ 2048) (C0 : lw_At p s m meth c b L xs) (G : WG) (hC : CC G "EndingsLabLaw" s m #[Value.ref b] (fun q => s.heap.size ≤ q)) (f : Nat) (ih : ∀ (i : Nat) (S : SS) (nn : Nat → Nat) (mm : Nat), i ≤ L + 4 → L + 4 < i + 4 * f → 4 * mm ≤ i → LInv S nn mm → ∀ (H : Heap) (locs : List Loc) (ls : Array Slot), va_P (gD G) clsL (wl (gA G) 57 (fS G S)) H → va_S (fun q => s.heap.size ≤ q) s.heap H locs → lv_has ls 4 [(0, .ref b), (1, .ref (gA G 0)), (2, .ref (gA G 44)), (3, .int (nI i))] → W p l e room_1 s m #[Value.ref b] below meth c H locs 57 3205 (lw_Z below #[Value.ref b] s) (F0 m 18 ls [])) (i : Nat) (S : SS) (nn : Nat → Nat) (mm : Nat) (hi : i + 4 ≤ L) (hf : L + 4 < i + 4 * (f + 1)) (hm : 4 * mm ≤ i) (hI : LInv S nn mm) : ∀ (H : Heap) (locs : List Loc) (ls : Array Slot), va_P (gD G) clsL (wl (gA G) 57 (fS G S)) H → va_S (fun q => s.heap.size ≤ q) s.heap H locs → lv_has ls 4 [(0, .ref b), (1, .ref (gA G 0)), (2, .ref (gA G 44)), (3, .int (nI i))] → W p l e room_1 s m #[Value.ref b] below meth c H locs 57 3205 (lw_Z below #[Value.ref b] s) (F0 m 92 ls []) := by
  obtain ⟨hx, hb, hr, hml, hown, hts, hX, hbl, hlocks, hgv⟩ := C0
  have hbA : ¬ (fun q : Nat => s.heap.size ≤ q) b := Nat.not_le.mpr hbl
  intro H locs ls hP hS hl
  refine lv_aload_n hx hb d_LA_law_92 rfl (lv_at hl 1 rfl) ?_
  refine lv_aload_n hx hb d_LA_law_93 rfl (lv_at hl 0 rfl) ?_
  refine lv_iload_n hx hb d_LA_law_94 rfl (lv_at hl 3 rfl) ?_
  refine lv_iconst (v := 1) hx hb d_LA_law_95 (by decide) ?_
  refine lv_iadd hx hb d_LA_law_96 ?_
  rw [show nI i + 1 = nI (i + 1) from i4 i 1]
  refine va_sld hx hb hX hbl hbA hS (vp_in_nI (show i + 1 < L by omega) (by omega)) d_LA_law_97 ?_
  refine lv_aload_n hx hb d_LA_law_98 rfl (lv_at hl 0 rfl) ?_
  refine lv_iload_n hx hb d_LA_law_99 rfl (lv_at hl 3 rfl) ?_
  refine lv_iconst (v := 2) hx hb d_LA_law_100 (by decide) ?_
  refine lv_iadd hx hb d_LA_law_101 ?_
  rw [show nI i + 2 = nI (i + 2) from i4 i 2]
  refine va_sld hx hb hX hbl hbA hS (vp_in_nI (show i + 2 < L by omega) (by omega)) d_LA_law_102 ?_
  refine lv_aload_n hx hb d_LA_law_103 rfl (lv_at hl 0 rfl) ?_
  refine lv_iload_n hx hb d_LA_law_104 rfl (lv_at hl 3 rfl) ?_
  refine lv_iconst (v := 3) hx hb d_LA_law_105 (by decide) ?_
  refine lv_iadd hx hb d_LA_law_106 ?_
  rw [show nI i + 3 = nI (i + 3) from i4 i 3]
  refine va_sld hx hb hX hbl hbA hS (vp_in_nI (show i + 3 < L by omega) (by omega)) d_LA_law_107 ?_
  refine r_i hC hS (r_runV (np := 3) (As := [.int (xs (nI (i + 1)).toNatClampNeg), .int (xs (nI (i + 2)).toNatClampNeg), .int (xs (nI (i + 3)).toNatClampNeg)]) (rest := []) hx hb hml hC hP hS (by decide) rfl rfl (m_LB_token l G S nn (fun p hp => ⟨(hI.1.1 p hp).1, (hI.1.1 p hp).2.1⟩) (xs (nI (i + 1)).toNatClampNeg) (xs (nI (i + 2)).toNatClampNeg) (xs (nI (i + 3)).toNatClampNeg)) l_LA_13 im_LB_token se_LB_token in_LB c_LB_token_in (by decide +kernel) ⟨(Nat.le_of_ble_eq_true rfl), (Nat.le_of_ble_eq_true rfl)⟩ rfl hl.1 (Nat.le_of_ble_eq_true rfl) d_LA_law_108 ⟨(Nat.le_of_ble_eq_true rfl), (Nat.le_of_ble_eq_true rfl)⟩) (fun r1 S1 H locs hw1 hP hS => ?_)
  obtain ⟨hpre, hpr⟩ := pr_token hI hw1
  refine lv_aload_n hx hb d_LA_law_111 rfl (lv_at hl 2 rfl) ?_
  refine lv_aload_n hx hb d_LA_law_112 rfl (lv_at hl 0 rfl) ?_
  refine lv_iload_n hx hb d_LA_law_113 rfl (lv_at hl 3 rfl) ?_
  refine lv_iconst (v := 1) hx hb d_LA_law_114 (by decide) ?_
  refine lv_iadd hx hb d_LA_law_115 ?_
  rw [show nI i + 1 = nI (i + 1) from i4 i 1]
  refine va_sld hx hb hX hbl hbA hS (vp_in_nI (show i + 1 < L by omega) (by omega)) d_LA_law_116 ?_
  refine lv_aload_n hx hb d_LA_law_117 rfl (lv_at hl 0 rfl) ?_
  refine lv_iload_n hx hb d_LA_law_118 rfl (lv_at hl 3 rfl) ?_
  refine lv_iconst (v := 2) hx hb d_LA_law_119 (by decide) ?_
  refine lv_iadd hx hb d_LA_law_120 ?_
  rw [show nI i + 2 = nI (i + 2) from i4 i 2]
  refine va_sld hx hb hX hbl hbA hS (vp_in_nI (show i + 2 < L by omega) (by omega)) d_LA_law_121 ?_
  refine lv_aload_n hx hb d_LA_law_122 rfl (lv_at hl 0 rfl) ?_
  refine lv_iload_n hx hb d_LA_law_123 rfl (lv_at hl 3 rfl) ?_
  refine lv_iconst (v := 3) hx hb d_LA_law_124 (by decide) ?_
  refine lv_iadd hx hb d_LA_law_125 ?_
  rw [show nI i + 3 = nI (i + 3) from i4 i 3]
  refine va_sld hx hb hX hbl hbA hS (vp_in_nI (show i + 3 < L by omega) (by omega)) d_LA_law_126 ?_
  refine r_i hC hS (r_runV (np := 3) (As := [.int (xs (nI (i + 1)).toNatClampNeg), .int (xs (nI (i + 2)).toNatClampNeg), .int (xs (nI (i + 3)).toNatClampNeg)]) (rest := [.int r1]) hx hb hml hC hP hS (by decide) rfl rfl (m_MO_token l G S1 nn hpre (xs (nI (i + 1)).toNatClampNeg) (xs (nI (i + 2)).toNatClampNeg) (xs (nI (i + 3)).toNatClampNeg)) l_LA_17 im_MO_token se_MO_token in_MO c_MO_token_in (by decide +kernel) ⟨(Nat.le_of_ble_eq_true rfl), (Nat.le_of_ble_eq_true rfl)⟩ rfl hl.1 (Nat.le_of_ble_eq_true rfl) d_LA_law_127 ⟨(Nat.le_of_ble_eq_true rfl), (Nat.le_of_ble_eq_true rfl)⟩) (fun r2 S2 H locs hw2 hP hS => ?_)
  obtain ⟨hre, n2, hI2⟩ := hpr _ _ hw2
  have hI2 := hI2.up
  refine lv_icmp_eq (tgt := 351) hx hb d_LA_law_130 (by decide) (fun _ => ?_) (fun c_130 => absurd hre c_130)
  refine lv_iinc (v := nI (i + 4)) (lv' := [(3, .int (nI (i + 4))), (0, .ref b), (1, .ref (gA G 0)), (2, .ref (gA G 44))]) hx hb d_LA_law_351 hl (k := 3) rfl (i4 i 4) (by decide) rfl (fun ls hl => ?_)
  refine lv_goto (tgt := 18) hx hb d_LA_law_354 (by decide) ?_
  exact ih (i + 4) _ _ (mm + 1) (by omega) (by omega) (by omega) hI2 _ _ _ hP hS (lv_sub hl [1, 2, 3, 0] rfl)
set_option maxHeartbeats 4000000 in
set_option maxRecDepth 100000 in
theorem law_wipe {p : Program} {e : Env} {s : State} {m : MethodId} {below : List Frame} {meth : Method} {c : Code} (l : Launch) {b L : Nat} {xs : Nat → Int32} (hL : L ≤ 2048) (C0 : lw_At p s m meth c b L xs) (G : WG) (hC : CC G "EndingsLabLaw" s m #[Value.ref b] (fun q => s.heap.size ≤ q)) (f : Nat) (ih : ∀ (i : Nat) (S : SS) (nn : Nat → Nat) (mm : Nat), i ≤ L + 4 → L + 4 < i + 4 * f → 4 * mm ≤ i → LInv S nn mm → ∀ (H : Heap) (locs : List Loc) (ls : Array Slot), va_P (gD G) clsL (wl (gA G) 57 (fS G S)) H → va_S (fun q => s.heap.size ≤ q) s.heap H locs → lv_has ls 4 [(0, .ref b), (1, .ref (gA G 0)), (2, .ref (gA G 44)), (3, .int (nI i))] → W p l e room_1 s m #[Value.ref b] below meth c H locs 57 3205 (lw_Z below #[Value.ref b] s) (F0 m 18 ls [])) (i : Nat) (S : SS) (nn : Nat → Nat) (mm : Nat) (hi : i + 4 ≤ L) (hf : L + 4 < i + 4 * (f + 1)) (hm : 4 * mm ≤ i) (hI : LInv S nn mm) : ∀ (H : Heap) (locs : List Loc) (ls : Array Slot), va_P (gD G) clsL (wl (gA G) 57 (fS G S)) H → va_S (fun q => s.heap.size ≤ q) s.heap H locs → lv_has ls 4 [(0, .ref b), (1, .ref (gA G 0)), (2, .ref (gA G 44)), (3, .int (nI i))] → W p l e room_1 s m #[Value.ref b] below meth c H locs 57 3205 (lw_Z below #[Value.ref b] s) (F0 m 135 ls []) := by
  obtain ⟨hx, hb, hr, hml, hown, hts, hX, hbl, hlocks, hgv⟩ := C0
  have hbA : ¬ (fun q : Nat => s.heap.size ≤ q) b := Nat.not_le.mpr hbl
  intro H locs ls hP hS hl
  refine lv_aload_n hx hb d_LA_law_135 rfl (lv_at hl 1 rfl) ?_
  refine lv_aload_n hx hb d_LA_law_136 rfl (lv_at hl 0 rfl) ?_
  refine lv_iload_n hx hb d_LA_law_137 rfl (lv_at hl 3 rfl) ?_
  refine lv_iconst (v := 1) hx hb d_LA_law_138 (by decide) ?_
  refine lv_iadd hx hb d_LA_law_139 ?_
  rw [show nI i + 1 = nI (i + 1) from i4 i 1]
  refine va_sld hx hb hX hbl hbA hS (vp_in_nI (show i + 1 < L by omega) (by omega)) d_LA_law_140 ?_
  refine r_i hC hS (r_runV (np := 1) (As := [.int (xs (nI (i + 1)).toNatClampNeg)]) (rest := []) hx hb hml hC hP hS (by decide) rfl rfl (m_LB_wipe l G S (xs (nI (i + 1)).toNatClampNeg)) l_LA_18 im_LB_wipe se_LB_wipe in_LB c_LB_wipe_in (by decide +kernel) ⟨(Nat.le_of_ble_eq_true rfl), (Nat.le_of_ble_eq_true rfl)⟩ rfl hl.1 (Nat.le_of_ble_eq_true rfl) d_LA_law_141 ⟨(Nat.le_of_ble_eq_true rfl), (Nat.le_of_ble_eq_true rfl)⟩) (fun r1 S1 H locs hw1 hP hS => ?_)
  obtain ⟨hpre, hpr⟩ := pr_wipe hI hw1
  refine lv_aload_n hx hb d_LA_law_144 rfl (lv_at hl 2 rfl) ?_
  refine lv_aload_n hx hb d_LA_law_145 rfl (lv_at hl 0 rfl) ?_
  refine lv_iload_n hx hb d_LA_law_146 rfl (lv_at hl 3 rfl) ?_
  refine lv_iconst (v := 1) hx hb d_LA_law_147 (by decide) ?_
  refine lv_iadd hx hb d_LA_law_148 ?_
  rw [show nI i + 1 = nI (i + 1) from i4 i 1]
  refine va_sld hx hb hX hbl hbA hS (vp_in_nI (show i + 1 < L by omega) (by omega)) d_LA_law_149 ?_
  refine r_i hC hS (r_runV (np := 1) (As := [.int (xs (nI (i + 1)).toNatClampNeg)]) (rest := [.int r1]) hx hb hml hC hP hS (by decide) rfl rfl (m_MO_wipe l G S1 nn hpre (xs (nI (i + 1)).toNatClampNeg)) l_LA_22 im_MO_wipe se_MO_wipe in_MO c_MO_wipe_in (by decide +kernel) ⟨(Nat.le_of_ble_eq_true rfl), (Nat.le_of_ble_eq_true rfl)⟩ rfl hl.1 (Nat.le_of_ble_eq_true rfl) d_LA_law_150 ⟨(Nat.le_of_ble_eq_true rfl), (Nat.le_of_ble_eq_true rfl)⟩) (fun r2 S2 H locs hw2 hP hS => ?_)
  obtain ⟨hre, n2, hI2⟩ := hpr _ _ hw2
  have hI2 := hI2.up
  refine lv_icmp_eq (tgt := 351) hx hb d_LA_law_153 (by decide) (fun _ => ?_) (fun c_153 => absurd hre c_153)
  refine lv_iinc (v := nI (i + 4)) (lv' := [(3, .int (nI (i + 4))), (0, .ref b), (1, .ref (gA G 0)), (2, .ref (gA G 44))]) hx hb d_LA_law_351 hl (k := 3) rfl (i4 i 4) (by decide) rfl (fun ls hl => ?_)
  refine lv_goto (tgt := 18) hx hb d_LA_law_354 (by decide) ?_
  exact ih (i + 4) _ _ (mm + 1) (by omega) (by omega) (by omega) hI2 _ _ _ hP hS (lv_sub hl [1, 2, 3, 0] rfl)
set_option maxHeartbeats 4000000 in
set_option maxRecDepth 100000 in
theorem law_check {p : Program} {e : Env} {s : State} {m : MethodId} {below : List Frame} {meth : Method} {c : Code} (l : Launch) {b L : Nat} {xs : Nat → Int32} (hL : L ≤ 2048) (C0 : lw_At p s m meth c b L xs) (G : WG) (hC : CC G "EndingsLabLaw" s m #[Value.ref b] (fun q => s.heap.size ≤ q)) (f : Nat) (ih : ∀ (i : Nat) (S : SS) (nn : Nat → Nat) (mm : Nat), i ≤ L + 4 → L + 4 < i + 4 * f → 4 * mm ≤ i → LInv S nn mm → ∀ (H : Heap) (locs : List Loc) (ls : Array Slot), va_P (gD G) clsL (wl (gA G) 57 (fS G S)) H → va_S (fun q => s.heap.size ≤ q) s.heap H locs → lv_has ls 4 [(0, .ref b), (1, .ref (gA G 0)), (2, .ref (gA G 44)), (3, .int (nI i))] → W p l e room_1 s m #[Value.ref b] below meth c H locs 57 3205 (lw_Z below #[Value.ref b] s) (F0 m 18 ls [])) (i : Nat) (S : SS) (nn : Nat → Nat) (mm : Nat) (hi : i + 4 ≤ L) (hf : L + 4 < i + 4 * (f + 1)) (hm : 4 * mm ≤ i) (hI : LInv S nn mm) : ∀ (H : Heap) (locs : List Loc) (ls : Array Slot), va_P (gD G) clsL (wl (gA G) 57 (fS G S)) H → va_S (fun q => s.heap.size ≤ q) s.heap H locs → lv_has ls 4 [(0, .ref b), (1, .ref (gA G 0)), (2, .ref (gA G 44)), (3, .int (nI i))] → W p l e room_1 s m #[Value.ref b] below meth c H locs 57 3205 (lw_Z below #[Value.ref b] s) (F0 m 158 ls []) := by
  obtain ⟨hx, hb, hr, hml, hown, hts, hX, hbl, hlocks, hgv⟩ := C0
  have hbA : ¬ (fun q : Nat => s.heap.size ≤ q) b := Nat.not_le.mpr hbl
  intro H locs ls hP hS hl
  refine lv_aload_n hx hb d_LA_law_158 rfl (lv_at hl 1 rfl) ?_
  refine lv_aload_n hx hb d_LA_law_159 rfl (lv_at hl 0 rfl) ?_
  refine lv_iload_n hx hb d_LA_law_160 rfl (lv_at hl 3 rfl) ?_
  refine lv_iconst (v := 1) hx hb d_LA_law_161 (by decide) ?_
  refine lv_iadd hx hb d_LA_law_162 ?_
  rw [show nI i + 1 = nI (i + 1) from i4 i 1]
  refine va_sld hx hb hX hbl hbA hS (vp_in_nI (show i + 1 < L by omega) (by omega)) d_LA_law_163 ?_
  refine r_i hC hS (r_runV (np := 1) (As := [.int (xs (nI (i + 1)).toNatClampNeg)]) (rest := []) hx hb hml hC hP hS (by decide) rfl rfl (m_LB_check l G S nn hI.1.tx (xs (nI (i + 1)).toNatClampNeg)) l_LA_23 im_LB_check se_LB_check in_LB c_LB_check_in (by decide +kernel) ⟨(Nat.le_of_ble_eq_true rfl), (Nat.le_of_ble_eq_true rfl)⟩ rfl hl.1 (Nat.le_of_ble_eq_true rfl) d_LA_law_164 ⟨(Nat.le_of_ble_eq_true rfl), (Nat.le_of_ble_eq_true rfl)⟩) (fun r1 S1 H locs hw1 hP hS => ?_)
  obtain ⟨hpre, hpr⟩ := pr_check hI hw1
  refine lv_aload_n hx hb d_LA_law_167 rfl (lv_at hl 2 rfl) ?_
  refine lv_aload_n hx hb d_LA_law_168 rfl (lv_at hl 0 rfl) ?_
  refine lv_iload_n hx hb d_LA_law_169 rfl (lv_at hl 3 rfl) ?_
  refine lv_iconst (v := 1) hx hb d_LA_law_170 (by decide) ?_
  refine lv_iadd hx hb d_LA_law_171 ?_
  rw [show nI i + 1 = nI (i + 1) from i4 i 1]
  refine va_sld hx hb hX hbl hbA hS (vp_in_nI (show i + 1 < L by omega) (by omega)) d_LA_law_172 ?_
  refine r_i hC hS (r_runV (np := 1) (As := [.int (xs (nI (i + 1)).toNatClampNeg)]) (rest := [.int r1]) hx hb hml hC hP hS (by decide) rfl rfl (m_MO_check l G S1 nn hpre (xs (nI (i + 1)).toNatClampNeg)) l_LA_26 im_MO_check se_MO_check in_MO c_MO_check_in (by decide +kernel) ⟨(Nat.le_of_ble_eq_true rfl), (Nat.le_of_ble_eq_true rfl)⟩ rfl hl.1 (Nat.le_of_ble_eq_true rfl) d_LA_law_173 ⟨(Nat.le_of_ble_eq_true rfl), (Nat.le_of_ble_eq_true rfl)⟩) (fun r2 S2 H locs hw2 hP hS => ?_)
  obtain ⟨hre, n2, hI2⟩ := hpr _ _ hw2
  have hI2 := hI2.up
  refine lv_icmp_eq (tgt := 351) hx hb d_LA_law_176 (by decide) (fun _ => ?_) (fun c_176 => absurd hre c_176)
  refine lv_iinc (v := nI (i + 4)) (lv' := [(3, .int (nI (i + 4))), (0, .ref b), (1, .ref (gA G 0)), (2, .ref (gA G 44))]) hx hb d_LA_law_351 hl (k := 3) rfl (i4 i 4) (by decide) rfl (fun ls hl => ?_)
  refine lv_goto (tgt := 18) hx hb d_LA_law_354 (by decide) ?_
  exact ih (i + 4) _ _ (mm + 1) (by omega) (by omega) (by omega) hI2 _ _ _ hP hS (lv_sub hl [1, 2, 3, 0] rfl)
set_option maxHeartbeats 4000000 in
set_option maxRecDepth 100000 in
theorem law_place {p : Program} {e : Env} {s : State} {m : MethodId} {below : List Frame} {meth : Method} {c : Code} (l : Launch) {b L : Nat} {xs : Nat → Int32} (hL : L ≤ 2048) (C0 : lw_At p s m meth c b L xs) (G : WG) (hC : CC G "EndingsLabLaw" s m #[Value.ref b] (fun q => s.heap.size ≤ q)) (f : Nat) (ih : ∀ (i : Nat) (S : SS) (nn : Nat → Nat) (mm : Nat), i ≤ L + 4 → L + 4 < i + 4 * f → 4 * mm ≤ i → LInv S nn mm → ∀ (H : Heap) (locs : List Loc) (ls : Array Slot), va_P (gD G) clsL (wl (gA G) 57 (fS G S)) H → va_S (fun q => s.heap.size ≤ q) s.heap H locs → lv_has ls 4 [(0, .ref b), (1, .ref (gA G 0)), (2, .ref (gA G 44)), (3, .int (nI i))] → W p l e room_1 s m #[Value.ref b] below meth c H locs 57 3205 (lw_Z below #[Value.ref b] s) (F0 m 18 ls [])) (i : Nat) (S : SS) (nn : Nat → Nat) (mm : Nat) (hi : i + 4 ≤ L) (hf : L + 4 < i + 4 * (f + 1)) (hm : 4 * mm ≤ i) (hI : LInv S nn mm) : ∀ (H : Heap) (locs : List Loc) (ls : Array Slot), va_P (gD G) clsL (wl (gA G) 57 (fS G S)) H → va_S (fun q => s.heap.size ≤ q) s.heap H locs → lv_has ls 4 [(0, .ref b), (1, .ref (gA G 0)), (2, .ref (gA G 44)), (3, .int (nI i))] → W p l e room_1 s m #[Value.ref b] below meth c H locs 57 3205 (lw_Z below #[Value.ref b] s) (F0 m 181 ls []) := by
  obtain ⟨hx, hb, hr, hml, hown, hts, hX, hbl, hlocks, hgv⟩ := C0
  have hbA : ¬ (fun q : Nat => s.heap.size ≤ q) b := Nat.not_le.mpr hbl
  intro H locs ls hP hS hl
  refine lv_aload_n hx hb d_LA_law_181 rfl (lv_at hl 1 rfl) ?_
  refine r_i hC hS (r_runV (np := 0) (As := []) (rest := []) hx hb hml hC hP hS (by decide) rfl rfl (m_LB_place l G S) l_LA_27 im_LB_place se_LB_place in_LB c_LB_place_in (by decide +kernel) ⟨(Nat.le_of_ble_eq_true rfl), (Nat.le_of_ble_eq_true rfl)⟩ rfl hl.1 (Nat.le_of_ble_eq_true rfl) d_LA_law_182 ⟨(Nat.le_of_ble_eq_true rfl), (Nat.le_of_ble_eq_true rfl)⟩) (fun r1 S1 H locs hw1 hP hS => ?_)
  obtain ⟨hr1, hSe1⟩ := hw1
  rw [hSe1] at hP
  refine lv_aload_n hx hb d_LA_law_185 rfl (lv_at hl 2 rfl) ?_
  refine r_i hC hS (r_runV (np := 0) (As := []) (rest := [.int r1]) hx hb hml hC hP hS (by decide) rfl rfl (m_MO_place l G S) l_LA_31 im_MO_place se_MO_place in_MO c_MO_place_in (by decide +kernel) ⟨(Nat.le_of_ble_eq_true rfl), (Nat.le_of_ble_eq_true rfl)⟩ rfl hl.1 (Nat.le_of_ble_eq_true rfl) d_LA_law_186 ⟨(Nat.le_of_ble_eq_true rfl), (Nat.le_of_ble_eq_true rfl)⟩) (fun r2 S2 H locs hw2 hP hS => ?_)
  obtain ⟨hr2, hSe2⟩ := hw2
  rw [hSe2] at hP
  have hre : r1 = r2 := hr1.trans ((hI.2.2.1).trans hr2.symm)
  have hI2 := hI.up
  refine lv_icmp_eq (tgt := 351) hx hb d_LA_law_189 (by decide) (fun _ => ?_) (fun c_189 => absurd hre c_189)
  refine lv_iinc (v := nI (i + 4)) (lv' := [(3, .int (nI (i + 4))), (0, .ref b), (1, .ref (gA G 0)), (2, .ref (gA G 44))]) hx hb d_LA_law_351 hl (k := 3) rfl (i4 i 4) (by decide) rfl (fun ls hl => ?_)
  refine lv_goto (tgt := 18) hx hb d_LA_law_354 (by decide) ?_
  exact ih (i + 4) _ _ (mm + 1) (by omega) (by omega) (by omega) hI2 _ _ _ hP hS (lv_sub hl [1, 2, 3, 0] rfl)
set_option maxHeartbeats 4000000 in
set_option maxRecDepth 100000 in
theorem law_run {p : Program} {e : Env} {s : State} {m : MethodId} {below : List Frame} {meth : Method} {c : Code} (l : Launch) {b L : Nat} {xs : Nat → Int32} (hL : L ≤ 2048) (C0 : lw_At p s m meth c b L xs) (G : WG) (hC : CC G "EndingsLabLaw" s m #[Value.ref b] (fun q => s.heap.size ≤ q)) (f : Nat) (ih : ∀ (i : Nat) (S : SS) (nn : Nat → Nat) (mm : Nat), i ≤ L + 4 → L + 4 < i + 4 * f → 4 * mm ≤ i → LInv S nn mm → ∀ (H : Heap) (locs : List Loc) (ls : Array Slot), va_P (gD G) clsL (wl (gA G) 57 (fS G S)) H → va_S (fun q => s.heap.size ≤ q) s.heap H locs → lv_has ls 4 [(0, .ref b), (1, .ref (gA G 0)), (2, .ref (gA G 44)), (3, .int (nI i))] → W p l e room_1 s m #[Value.ref b] below meth c H locs 57 3205 (lw_Z below #[Value.ref b] s) (F0 m 18 ls [])) (i : Nat) (S : SS) (nn : Nat → Nat) (mm : Nat) (hi : i + 4 ≤ L) (hf : L + 4 < i + 4 * (f + 1)) (hm : 4 * mm ≤ i) (hI : LInv S nn mm) : ∀ (H : Heap) (locs : List Loc) (ls : Array Slot), va_P (gD G) clsL (wl (gA G) 57 (fS G S)) H → va_S (fun q => s.heap.size ≤ q) s.heap H locs → lv_has ls 4 [(0, .ref b), (1, .ref (gA G 0)), (2, .ref (gA G 44)), (3, .int (nI i))] → W p l e room_1 s m #[Value.ref b] below meth c H locs 57 3205 (lw_Z below #[Value.ref b] s) (F0 m 194 ls []) := by
  obtain ⟨hx, hb, hr, hml, hown, hts, hX, hbl, hlocks, hgv⟩ := C0
  have hbA : ¬ (fun q : Nat => s.heap.size ≤ q) b := Nat.not_le.mpr hbl
  obtain ⟨g, f9, hR, hM, hv9, hf9, h17, h22⟩ := hI.2.2.2.2
  have hnv9 := hR.2.2.2.1
  have hst9 := hR.2.1
  have hnf9 := hR.2.2.2.2.2.2.2.1
  intro H locs ls hP hS hl
  refine lv_aload_n hx hb d_LA_law_194 rfl (lv_at hl 1 rfl) ?_
  refine lv_aload_n hx hb d_LA_law_195 rfl (lv_at hl 0 rfl) ?_
  refine lv_iload_n hx hb d_LA_law_196 rfl (lv_at hl 3 rfl) ?_
  refine lv_iconst (v := 1) hx hb d_LA_law_197 (by decide) ?_
  refine lv_iadd hx hb d_LA_law_198 ?_
  rw [show nI i + 1 = nI (i + 1) from i4 i 1]
  refine va_sld hx hb hX hbl hbA hS (vp_in_nI (show i + 1 < L by omega) (by omega)) d_LA_law_199 ?_
  refine lv_aload_n hx hb d_LA_law_200 rfl (lv_at hl 0 rfl) ?_
  refine lv_iload_n hx hb d_LA_law_201 rfl (lv_at hl 3 rfl) ?_
  refine lv_iconst (v := 2) hx hb d_LA_law_202 (by decide) ?_
  refine lv_iadd hx hb d_LA_law_203 ?_
  rw [show nI i + 2 = nI (i + 2) from i4 i 2]
  refine va_sld hx hb hX hbl hbA hS (vp_in_nI (show i + 2 < L by omega) (by omega)) d_LA_law_204 ?_
  refine lv_aload_n hx hb d_LA_law_205 rfl (lv_at hl 0 rfl) ?_
  refine lv_iload_n hx hb d_LA_law_206 rfl (lv_at hl 3 rfl) ?_
  refine lv_iconst (v := 3) hx hb d_LA_law_207 (by decide) ?_
  refine lv_iadd hx hb d_LA_law_208 ?_
  rw [show nI i + 3 = nI (i + 3) from i4 i 3]
  refine va_sld hx hb hX hbl hbA hS (vp_in_nI (show i + 3 < L by omega) (by omega)) d_LA_law_209 ?_
  refine lv_if_eq (tgt := 217) hx hb d_LA_law_210 (by decide) (fun c_210 => ?_) (fun c_210 => ?_)
  · refine lv_iconst (v := 0) hx hb d_LA_law_217 (by decide) ?_
    refine r_i hC hS (r_runV (np := 3) (As := [.int (xs (nI (i + 1)).toNatClampNeg), .int (xs (nI (i + 2)).toNatClampNeg), .int 0]) (rest := []) hx hb hml hC hP hS (by decide) rfl rfl (m_LB_run l G S nn hI.1.tx (opG S) (arG S) (EG S nn) nn 1200 (hIt 0 5 + 4) (gnv g) (gev g) hR.2.2.1 (by omega) (fun j h1 h2 => hR.2.2.2.2.1 j h1 h2) (go_of hI.1) (xs (nI (i + 1)).toNatClampNeg) (xs (nI (i + 2)).toNatClampNeg) 0) l_LA_32 im_LB_run se_LB_run in_LB c_LB_run_in (by decide +kernel) ⟨(Nat.le_of_ble_eq_true rfl), (Nat.le_of_ble_eq_true rfl)⟩ rfl hl.1 (Nat.le_of_ble_eq_true rfl) d_LA_law_218 ⟨(Nat.le_of_ble_eq_true rfl), (Nat.le_of_ble_eq_true rfl)⟩) (fun r1 S1 H locs hw1 hP hS => ?_)
    refine lv_aload_n hx hb d_LA_law_221 rfl (lv_at hl 2 rfl) ?_
    refine lv_aload_n hx hb d_LA_law_222 rfl (lv_at hl 0 rfl) ?_
    refine lv_iload_n hx hb d_LA_law_223 rfl (lv_at hl 3 rfl) ?_
    refine lv_iconst (v := 1) hx hb d_LA_law_224 (by decide) ?_
    refine lv_iadd hx hb d_LA_law_225 ?_
    rw [show nI i + 1 = nI (i + 1) from i4 i 1]
    refine va_sld hx hb hX hbl hbA hS (vp_in_nI (show i + 1 < L by omega) (by omega)) d_LA_law_226 ?_
    refine lv_aload_n hx hb d_LA_law_227 rfl (lv_at hl 0 rfl) ?_
    refine lv_iload_n hx hb d_LA_law_228 rfl (lv_at hl 3 rfl) ?_
    refine lv_iconst (v := 2) hx hb d_LA_law_229 (by decide) ?_
    refine lv_iadd hx hb d_LA_law_230 ?_
    rw [show nI i + 2 = nI (i + 2) from i4 i 2]
    refine va_sld hx hb hX hbl hbA hS (vp_in_nI (show i + 2 < L by omega) (by omega)) d_LA_law_231 ?_
    refine lv_aload_n hx hb d_LA_law_232 rfl (lv_at hl 0 rfl) ?_
    refine lv_iload_n hx hb d_LA_law_233 rfl (lv_at hl 3 rfl) ?_
    refine lv_iconst (v := 3) hx hb d_LA_law_234 (by decide) ?_
    refine lv_iadd hx hb d_LA_law_235 ?_
    rw [show nI i + 3 = nI (i + 3) from i4 i 3]
    refine va_sld hx hb hX hbl hbA hS (vp_in_nI (show i + 3 < L by omega) (by omega)) d_LA_law_236 ?_
    refine lv_if_eq (tgt := 244) hx hb d_LA_law_237 (by decide) (fun c_237 => ?_) (fun c_237 => ?_)
    · refine lv_iconst (v := 0) hx hb d_LA_law_244 (by decide) ?_
      refine r_i hC hS (r_runV (np := 3) (As := [.int (xs (nI (i + 1)).toNatClampNeg), .int (xs (nI (i + 2)).toNatClampNeg), .int 0]) (rest := [.int r1]) hx hb hml hC hP hS (by decide) rfl rfl (m_MO_run l G S1 nn (htok_mv (htok_of hI) (fun a b hab => rn_k hw1 a b (by omega))) (opG S) (arG S) (EG S nn) 1200 (gnv g) (gev g) (by decide) ((rn_k hw1 44 24 (by decide)).trans hM.2.2.1) (by omega) (fun j h1 h2 => (rn_k hw1 56 j (by decide)).trans (hM.2.2.2.2.1 j h1 h2)) (goM_of hI (fun a b hab => rn_k hw1 a b (by omega))) (xs (nI (i + 1)).toNatClampNeg) (xs (nI (i + 2)).toNatClampNeg) 0) l_LA_36 im_MO_run se_MO_run in_MO c_MO_run_in (by decide +kernel) ⟨(Nat.le_of_ble_eq_true rfl), (Nat.le_of_ble_eq_true rfl)⟩ rfl hl.1 (Nat.le_of_ble_eq_true rfl) d_LA_law_245 ⟨(Nat.le_of_ble_eq_true rfl), (Nat.le_of_ble_eq_true rfl)⟩) (fun r2 S2 H locs hw2 hP hS => ?_)
      obtain ⟨hre, n2, hI2⟩ := pr_run hI hv9 hw1 _ _ hw2
      refine lv_icmp_eq (tgt := 351) hx hb d_LA_law_248 (by decide) (fun _ => ?_) (fun c_248 => absurd hre c_248)
      refine lv_iinc (v := nI (i + 4)) (lv' := [(3, .int (nI (i + 4))), (0, .ref b), (1, .ref (gA G 0)), (2, .ref (gA G 44))]) hx hb d_LA_law_351 hl (k := 3) rfl (i4 i 4) (by decide) rfl (fun ls hl => ?_)
      refine lv_goto (tgt := 18) hx hb d_LA_law_354 (by decide) ?_
      exact ih (i + 4) _ _ (mm + 1) (by omega) (by omega) (by omega) hI2 _ _ _ hP hS (lv_sub hl [1, 2, 3, 0] rfl)
    · refine lv_iconst (v := 1) hx hb d_LA_law_240 (by decide) ?_
      refine lv_goto (tgt := 245) hx hb d_LA_law_241 (by decide) ?_
      refine r_i hC hS (r_runV (np := 3) (As := [.int (xs (nI (i + 1)).toNatClampNeg), .int (xs (nI (i + 2)).toNatClampNeg), .int 1]) (rest := [.int r1]) hx hb hml hC hP hS (by decide) rfl rfl (m_MO_run l G S1 nn (htok_mv (htok_of hI) (fun a b hab => rn_k hw1 a b (by omega))) (opG S) (arG S) (EG S nn) 1200 (gnv g) (gev g) (by decide) ((rn_k hw1 44 24 (by decide)).trans hM.2.2.1) (by omega) (fun j h1 h2 => (rn_k hw1 56 j (by decide)).trans (hM.2.2.2.2.1 j h1 h2)) (goM_of hI (fun a b hab => rn_k hw1 a b (by omega))) (xs (nI (i + 1)).toNatClampNeg) (xs (nI (i + 2)).toNatClampNeg) 1) l_LA_36 im_MO_run se_MO_run in_MO c_MO_run_in (by decide +kernel) ⟨(Nat.le_of_ble_eq_true rfl), (Nat.le_of_ble_eq_true rfl)⟩ rfl hl.1 (Nat.le_of_ble_eq_true rfl) d_LA_law_245 ⟨(Nat.le_of_ble_eq_true rfl), (Nat.le_of_ble_eq_true rfl)⟩) (fun r2 S2 H locs hw2 hP hS => ?_)
      obtain ⟨hre, n2, hI2⟩ := pr_run hI hv9 hw1 _ _ hw2
      refine lv_icmp_eq (tgt := 351) hx hb d_LA_law_248 (by decide) (fun _ => ?_) (fun c_248 => absurd hre c_248)
      refine lv_iinc (v := nI (i + 4)) (lv' := [(3, .int (nI (i + 4))), (0, .ref b), (1, .ref (gA G 0)), (2, .ref (gA G 44))]) hx hb d_LA_law_351 hl (k := 3) rfl (i4 i 4) (by decide) rfl (fun ls hl => ?_)
      refine lv_goto (tgt := 18) hx hb d_LA_law_354 (by decide) ?_
      exact ih (i + 4) _ _ (mm + 1) (by omega) (by omega) (by omega) hI2 _ _ _ hP hS (lv_sub hl [1, 2, 3, 0] rfl)
  · refine lv_iconst (v := 1) hx hb d_LA_law_213 (by decide) ?_
    refine lv_goto (tgt := 218) hx hb d_LA_law_214 (by decide) ?_
    refine r_i hC hS (r_runV (np := 3) (As := [.int (xs (nI (i + 1)).toNatClampNeg), .int (xs (nI (i + 2)).toNatClampNeg), .int 1]) (rest := []) hx hb hml hC hP hS (by decide) rfl rfl (m_LB_run l G S nn hI.1.tx (opG S) (arG S) (EG S nn) nn 1200 (hIt 0 5 + 4) (gnv g) (gev g) hR.2.2.1 (by omega) (fun j h1 h2 => hR.2.2.2.2.1 j h1 h2) (go_of hI.1) (xs (nI (i + 1)).toNatClampNeg) (xs (nI (i + 2)).toNatClampNeg) 1) l_LA_32 im_LB_run se_LB_run in_LB c_LB_run_in (by decide +kernel) ⟨(Nat.le_of_ble_eq_true rfl), (Nat.le_of_ble_eq_true rfl)⟩ rfl hl.1 (Nat.le_of_ble_eq_true rfl) d_LA_law_218 ⟨(Nat.le_of_ble_eq_true rfl), (Nat.le_of_ble_eq_true rfl)⟩) (fun r1 S1 H locs hw1 hP hS => ?_)
    refine lv_aload_n hx hb d_LA_law_221 rfl (lv_at hl 2 rfl) ?_
    refine lv_aload_n hx hb d_LA_law_222 rfl (lv_at hl 0 rfl) ?_
    refine lv_iload_n hx hb d_LA_law_223 rfl (lv_at hl 3 rfl) ?_
    refine lv_iconst (v := 1) hx hb d_LA_law_224 (by decide) ?_
    refine lv_iadd hx hb d_LA_law_225 ?_
    rw [show nI i + 1 = nI (i + 1) from i4 i 1]
    refine va_sld hx hb hX hbl hbA hS (vp_in_nI (show i + 1 < L by omega) (by omega)) d_LA_law_226 ?_
    refine lv_aload_n hx hb d_LA_law_227 rfl (lv_at hl 0 rfl) ?_
    refine lv_iload_n hx hb d_LA_law_228 rfl (lv_at hl 3 rfl) ?_
    refine lv_iconst (v := 2) hx hb d_LA_law_229 (by decide) ?_
    refine lv_iadd hx hb d_LA_law_230 ?_
    rw [show nI i + 2 = nI (i + 2) from i4 i 2]
    refine va_sld hx hb hX hbl hbA hS (vp_in_nI (show i + 2 < L by omega) (by omega)) d_LA_law_231 ?_
    refine lv_aload_n hx hb d_LA_law_232 rfl (lv_at hl 0 rfl) ?_
    refine lv_iload_n hx hb d_LA_law_233 rfl (lv_at hl 3 rfl) ?_
    refine lv_iconst (v := 3) hx hb d_LA_law_234 (by decide) ?_
    refine lv_iadd hx hb d_LA_law_235 ?_
    rw [show nI i + 3 = nI (i + 3) from i4 i 3]
    refine va_sld hx hb hX hbl hbA hS (vp_in_nI (show i + 3 < L by omega) (by omega)) d_LA_law_236 ?_
    refine lv_if_eq (tgt := 244) hx hb d_LA_law_237 (by decide) (fun c_237 => ?_) (fun c_237 => ?_)
    · refine lv_iconst (v := 0) hx hb d_LA_law_244 (by decide) ?_
      refine r_i hC hS (r_runV (np := 3) (As := [.int (xs (nI (i + 1)).toNatClampNeg), .int (xs (nI (i + 2)).toNatClampNeg), .int 0]) (rest := [.int r1]) hx hb hml hC hP hS (by decide) rfl rfl (m_MO_run l G S1 nn (htok_mv (htok_of hI) (fun a b hab => rn_k hw1 a b (by omega))) (opG S) (arG S) (EG S nn) 1200 (gnv g) (gev g) (by decide) ((rn_k hw1 44 24 (by decide)).trans hM.2.2.1) (by omega) (fun j h1 h2 => (rn_k hw1 56 j (by decide)).trans (hM.2.2.2.2.1 j h1 h2)) (goM_of hI (fun a b hab => rn_k hw1 a b (by omega))) (xs (nI (i + 1)).toNatClampNeg) (xs (nI (i + 2)).toNatClampNeg) 0) l_LA_36 im_MO_run se_MO_run in_MO c_MO_run_in (by decide +kernel) ⟨(Nat.le_of_ble_eq_true rfl), (Nat.le_of_ble_eq_true rfl)⟩ rfl hl.1 (Nat.le_of_ble_eq_true rfl) d_LA_law_245 ⟨(Nat.le_of_ble_eq_true rfl), (Nat.le_of_ble_eq_true rfl)⟩) (fun r2 S2 H locs hw2 hP hS => ?_)
      obtain ⟨hre, n2, hI2⟩ := pr_run hI hv9 hw1 _ _ hw2
      refine lv_icmp_eq (tgt := 351) hx hb d_LA_law_248 (by decide) (fun _ => ?_) (fun c_248 => absurd hre c_248)
      refine lv_iinc (v := nI (i + 4)) (lv' := [(3, .int (nI (i + 4))), (0, .ref b), (1, .ref (gA G 0)), (2, .ref (gA G 44))]) hx hb d_LA_law_351 hl (k := 3) rfl (i4 i 4) (by decide) rfl (fun ls hl => ?_)
      refine lv_goto (tgt := 18) hx hb d_LA_law_354 (by decide) ?_
      exact ih (i + 4) _ _ (mm + 1) (by omega) (by omega) (by omega) hI2 _ _ _ hP hS (lv_sub hl [1, 2, 3, 0] rfl)
    · refine lv_iconst (v := 1) hx hb d_LA_law_240 (by decide) ?_
      refine lv_goto (tgt := 245) hx hb d_LA_law_241 (by decide) ?_
      refine r_i hC hS (r_runV (np := 3) (As := [.int (xs (nI (i + 1)).toNatClampNeg), .int (xs (nI (i + 2)).toNatClampNeg), .int 1]) (rest := [.int r1]) hx hb hml hC hP hS (by decide) rfl rfl (m_MO_run l G S1 nn (htok_mv (htok_of hI) (fun a b hab => rn_k hw1 a b (by omega))) (opG S) (arG S) (EG S nn) 1200 (gnv g) (gev g) (by decide) ((rn_k hw1 44 24 (by decide)).trans hM.2.2.1) (by omega) (fun j h1 h2 => (rn_k hw1 56 j (by decide)).trans (hM.2.2.2.2.1 j h1 h2)) (goM_of hI (fun a b hab => rn_k hw1 a b (by omega))) (xs (nI (i + 1)).toNatClampNeg) (xs (nI (i + 2)).toNatClampNeg) 1) l_LA_36 im_MO_run se_MO_run in_MO c_MO_run_in (by decide +kernel) ⟨(Nat.le_of_ble_eq_true rfl), (Nat.le_of_ble_eq_true rfl)⟩ rfl hl.1 (Nat.le_of_ble_eq_true rfl) d_LA_law_245 ⟨(Nat.le_of_ble_eq_true rfl), (Nat.le_of_ble_eq_true rfl)⟩) (fun r2 S2 H locs hw2 hP hS => ?_)
      obtain ⟨hre, n2, hI2⟩ := pr_run hI hv9 hw1 _ _ hw2
      refine lv_icmp_eq (tgt := 351) hx hb d_LA_law_248 (by decide) (fun _ => ?_) (fun c_248 => absurd hre c_248)
      refine lv_iinc (v := nI (i + 4)) (lv' := [(3, .int (nI (i + 4))), (0, .ref b), (1, .ref (gA G 0)), (2, .ref (gA G 44))]) hx hb d_LA_law_351 hl (k := 3) rfl (i4 i 4) (by decide) rfl (fun ls hl => ?_)
      refine lv_goto (tgt := 18) hx hb d_LA_law_354 (by decide) ?_
      exact ih (i + 4) _ _ (mm + 1) (by omega) (by omega) (by omega) hI2 _ _ _ hP hS (lv_sub hl [1, 2, 3, 0] rfl)
set_option maxHeartbeats 4000000 in
set_option maxRecDepth 100000 in
theorem law_value {p : Program} {e : Env} {s : State} {m : MethodId} {below : List Frame} {meth : Method} {c : Code} (l : Launch) {b L : Nat} {xs : Nat → Int32} (hL : L ≤ 2048) (C0 : lw_At p s m meth c b L xs) (G : WG) (hC : CC G "EndingsLabLaw" s m #[Value.ref b] (fun q => s.heap.size ≤ q)) (f : Nat) (ih : ∀ (i : Nat) (S : SS) (nn : Nat → Nat) (mm : Nat), i ≤ L + 4 → L + 4 < i + 4 * f → 4 * mm ≤ i → LInv S nn mm → ∀ (H : Heap) (locs : List Loc) (ls : Array Slot), va_P (gD G) clsL (wl (gA G) 57 (fS G S)) H → va_S (fun q => s.heap.size ≤ q) s.heap H locs → lv_has ls 4 [(0, .ref b), (1, .ref (gA G 0)), (2, .ref (gA G 44)), (3, .int (nI i))] → W p l e room_1 s m #[Value.ref b] below meth c H locs 57 3205 (lw_Z below #[Value.ref b] s) (F0 m 18 ls [])) (i : Nat) (S : SS) (nn : Nat → Nat) (mm : Nat) (hi : i + 4 ≤ L) (hf : L + 4 < i + 4 * (f + 1)) (hm : 4 * mm ≤ i) (hI : LInv S nn mm) : ∀ (H : Heap) (locs : List Loc) (ls : Array Slot), va_P (gD G) clsL (wl (gA G) 57 (fS G S)) H → va_S (fun q => s.heap.size ≤ q) s.heap H locs → lv_has ls 4 [(0, .ref b), (1, .ref (gA G 0)), (2, .ref (gA G 44)), (3, .int (nI i))] → W p l e room_1 s m #[Value.ref b] below meth c H locs 57 3205 (lw_Z below #[Value.ref b] s) (F0 m 253 ls []) := by
  obtain ⟨hx, hb, hr, hml, hown, hts, hX, hbl, hlocks, hgv⟩ := C0
  have hbA : ¬ (fun q : Nat => s.heap.size ≤ q) b := Nat.not_le.mpr hbl
  intro H locs ls hP hS hl
  refine lv_aload_n hx hb d_LA_law_253 rfl (lv_at hl 1 rfl) ?_
  refine r_i hC hS (r_runV (np := 0) (As := []) (rest := []) hx hb hml hC hP hS (by decide) rfl rfl (m_LB_value l G S) l_LA_37 im_LB_value se_LB_value in_LB c_LB_value_in (by decide +kernel) ⟨(Nat.le_of_ble_eq_true rfl), (Nat.le_of_ble_eq_true rfl)⟩ rfl hl.1 (Nat.le_of_ble_eq_true rfl) d_LA_law_254 ⟨(Nat.le_of_ble_eq_true rfl), (Nat.le_of_ble_eq_true rfl)⟩) (fun r1 S1 H locs hw1 hP hS => ?_)
  obtain ⟨hr1, hSe1⟩ := hw1
  rw [hSe1] at hP
  refine lv_aload_n hx hb d_LA_law_257 rfl (lv_at hl 2 rfl) ?_
  refine r_i hC hS (r_runV (np := 0) (As := []) (rest := [.int r1]) hx hb hml hC hP hS (by decide) rfl rfl (m_MO_value l G S) l_LA_40 im_MO_value se_MO_value in_MO c_MO_value_in (by decide +kernel) ⟨(Nat.le_of_ble_eq_true rfl), (Nat.le_of_ble_eq_true rfl)⟩ rfl hl.1 (Nat.le_of_ble_eq_true rfl) d_LA_law_258 ⟨(Nat.le_of_ble_eq_true rfl), (Nat.le_of_ble_eq_true rfl)⟩) (fun r2 S2 H locs hw2 hP hS => ?_)
  obtain ⟨hr2, hSe2⟩ := hw2
  rw [hSe2] at hP
  have hre : r1 = r2 := hr1.trans ((hI.2.2.2.1).trans hr2.symm)
  have hI2 := hI.up
  refine lv_icmp_eq (tgt := 351) hx hb d_LA_law_261 (by decide) (fun _ => ?_) (fun c_261 => absurd hre c_261)
  refine lv_iinc (v := nI (i + 4)) (lv' := [(3, .int (nI (i + 4))), (0, .ref b), (1, .ref (gA G 0)), (2, .ref (gA G 44))]) hx hb d_LA_law_351 hl (k := 3) rfl (i4 i 4) (by decide) rfl (fun ls hl => ?_)
  refine lv_goto (tgt := 18) hx hb d_LA_law_354 (by decide) ?_
  exact ih (i + 4) _ _ (mm + 1) (by omega) (by omega) (by omega) hI2 _ _ _ hP hS (lv_sub hl [1, 2, 3, 0] rfl)
set_option maxHeartbeats 4000000 in
set_option maxRecDepth 100000 in
theorem law_fault {p : Program} {e : Env} {s : State} {m : MethodId} {below : List Frame} {meth : Method} {c : Code} (l : Launch) {b L : Nat} {xs : Nat → Int32} (hL : L ≤ 2048) (C0 : lw_At p s m meth c b L xs) (G : WG) (hC : CC G "EndingsLabLaw" s m #[Value.ref b] (fun q => s.heap.size ≤ q)) (f : Nat) (ih : ∀ (i : Nat) (S : SS) (nn : Nat → Nat) (mm : Nat), i ≤ L + 4 → L + 4 < i + 4 * f → 4 * mm ≤ i → LInv S nn mm → ∀ (H : Heap) (locs : List Loc) (ls : Array Slot), va_P (gD G) clsL (wl (gA G) 57 (fS G S)) H → va_S (fun q => s.heap.size ≤ q) s.heap H locs → lv_has ls 4 [(0, .ref b), (1, .ref (gA G 0)), (2, .ref (gA G 44)), (3, .int (nI i))] → W p l e room_1 s m #[Value.ref b] below meth c H locs 57 3205 (lw_Z below #[Value.ref b] s) (F0 m 18 ls [])) (i : Nat) (S : SS) (nn : Nat → Nat) (mm : Nat) (hi : i + 4 ≤ L) (hf : L + 4 < i + 4 * (f + 1)) (hm : 4 * mm ≤ i) (hI : LInv S nn mm) : ∀ (H : Heap) (locs : List Loc) (ls : Array Slot), va_P (gD G) clsL (wl (gA G) 57 (fS G S)) H → va_S (fun q => s.heap.size ≤ q) s.heap H locs → lv_has ls 4 [(0, .ref b), (1, .ref (gA G 0)), (2, .ref (gA G 44)), (3, .int (nI i))] → W p l e room_1 s m #[Value.ref b] below meth c H locs 57 3205 (lw_Z below #[Value.ref b] s) (F0 m 266 ls []) := by
  obtain ⟨hx, hb, hr, hml, hown, hts, hX, hbl, hlocks, hgv⟩ := C0
  have hbA : ¬ (fun q : Nat => s.heap.size ≤ q) b := Nat.not_le.mpr hbl
  obtain ⟨g, f9, hR, hM, hv9, hf9, h17, h22⟩ := hI.2.2.2.2
  have hnv9 := hR.2.2.2.1
  have hst9 := hR.2.1
  have hnf9 := hR.2.2.2.2.2.2.2.1
  intro H locs ls hP hS hl
  refine lv_aload_n hx hb d_LA_law_266 rfl (lv_at hl 1 rfl) ?_
  refine lv_aload_n hx hb d_LA_law_267 rfl (lv_at hl 0 rfl) ?_
  refine lv_iload_n hx hb d_LA_law_268 rfl (lv_at hl 3 rfl) ?_
  refine lv_iconst (v := 1) hx hb d_LA_law_269 (by decide) ?_
  refine lv_iadd hx hb d_LA_law_270 ?_
  rw [show nI i + 1 = nI (i + 1) from i4 i 1]
  refine va_sld hx hb hX hbl hbA hS (vp_in_nI (show i + 1 < L by omega) (by omega)) d_LA_law_271 ?_
  refine r_i hC hS (r_runV (np := 1) (As := [.int (xs (nI (i + 1)).toNatClampNeg)]) (rest := []) hx hb hml hC hP hS (by decide) rfl rfl (m_LB_fault l G S (gnf g) hR.2.2.2.2.2.2.2.1 hR.2.2.2.2.2.2.1 (by rw [h17]; exact (cz_b hf9 (by omega)).2) (fun j hj => by rw [(hR.2.2.2.2.2.2.2.2 j hj).2.1]; exact cz_b (hR.2.2.2.2.2.2.2.2 j hj).2.2 (by omega)) (xs (nI (i + 1)).toNatClampNeg)) l_LA_41 im_LB_fault se_LB_fault in_LB c_LB_fault_in (by decide +kernel) ⟨(Nat.le_of_ble_eq_true rfl), (Nat.le_of_ble_eq_true rfl)⟩ rfl hl.1 (Nat.le_of_ble_eq_true rfl) d_LA_law_272 ⟨(Nat.le_of_ble_eq_true rfl), (Nat.le_of_ble_eq_true rfl)⟩) (fun r1 S1 H locs hw1 hP hS => ?_)
  obtain ⟨hr1, hSe1⟩ := hw1
  rw [hSe1] at hP
  refine lv_aload_n hx hb d_LA_law_275 rfl (lv_at hl 2 rfl) ?_
  refine lv_aload_n hx hb d_LA_law_276 rfl (lv_at hl 0 rfl) ?_
  refine lv_iload_n hx hb d_LA_law_277 rfl (lv_at hl 3 rfl) ?_
  refine lv_iconst (v := 1) hx hb d_LA_law_278 (by decide) ?_
  refine lv_iadd hx hb d_LA_law_279 ?_
  rw [show nI i + 1 = nI (i + 1) from i4 i 1]
  refine va_sld hx hb hX hbl hbA hS (vp_in_nI (show i + 1 < L by omega) (by omega)) d_LA_law_280 ?_
  refine r_i hC hS (r_runV (np := 1) (As := [.int (xs (nI (i + 1)).toNatClampNeg)]) (rest := [.int r1]) hx hb hml hC hP hS (by decide) rfl rfl (m_MO_faultA l G S (gnf g) f9 (gfc g) (by omega) hf9 h22 (fun j h0 h1 => (hM.2.2.2.2.2.2.2.2 j h0 h1).2.2) (fun j h0 h1 => (hM.2.2.2.2.2.2.2.2 j h0 h1).2.1) (xs (nI (i + 1)).toNatClampNeg)) l_LA_44 im_MO_fault se_MO_fault in_MO c_MO_fault_in (by decide +kernel) ⟨(Nat.le_of_ble_eq_true rfl), (Nat.le_of_ble_eq_true rfl)⟩ rfl hl.1 (Nat.le_of_ble_eq_true rfl) d_LA_law_281 ⟨(Nat.le_of_ble_eq_true rfl), (Nat.le_of_ble_eq_true rfl)⟩) (fun r2 S2 H locs hw2 hP hS => ?_)
  obtain ⟨hr2, hSe2⟩ := hw2
  rw [hSe2] at hP
  have hre : r1 = r2 := hr1.trans ((fa_eq hR hM hf9 h17 _).trans hr2.symm)
  have hI2 := hI.up
  refine lv_icmp_eq (tgt := 351) hx hb d_LA_law_284 (by decide) (fun _ => ?_) (fun c_284 => absurd hre c_284)
  refine lv_iinc (v := nI (i + 4)) (lv' := [(3, .int (nI (i + 4))), (0, .ref b), (1, .ref (gA G 0)), (2, .ref (gA G 44))]) hx hb d_LA_law_351 hl (k := 3) rfl (i4 i 4) (by decide) rfl (fun ls hl => ?_)
  refine lv_goto (tgt := 18) hx hb d_LA_law_354 (by decide) ?_
  exact ih (i + 4) _ _ (mm + 1) (by omega) (by omega) (by omega) hI2 _ _ _ hP hS (lv_sub hl [1, 2, 3, 0] rfl)
set_option maxHeartbeats 4000000 in
set_option maxRecDepth 100000 in
theorem law_steps {p : Program} {e : Env} {s : State} {m : MethodId} {below : List Frame} {meth : Method} {c : Code} (l : Launch) {b L : Nat} {xs : Nat → Int32} (hL : L ≤ 2048) (C0 : lw_At p s m meth c b L xs) (G : WG) (hC : CC G "EndingsLabLaw" s m #[Value.ref b] (fun q => s.heap.size ≤ q)) (f : Nat) (ih : ∀ (i : Nat) (S : SS) (nn : Nat → Nat) (mm : Nat), i ≤ L + 4 → L + 4 < i + 4 * f → 4 * mm ≤ i → LInv S nn mm → ∀ (H : Heap) (locs : List Loc) (ls : Array Slot), va_P (gD G) clsL (wl (gA G) 57 (fS G S)) H → va_S (fun q => s.heap.size ≤ q) s.heap H locs → lv_has ls 4 [(0, .ref b), (1, .ref (gA G 0)), (2, .ref (gA G 44)), (3, .int (nI i))] → W p l e room_1 s m #[Value.ref b] below meth c H locs 57 3205 (lw_Z below #[Value.ref b] s) (F0 m 18 ls [])) (i : Nat) (S : SS) (nn : Nat → Nat) (mm : Nat) (hi : i + 4 ≤ L) (hf : L + 4 < i + 4 * (f + 1)) (hm : 4 * mm ≤ i) (hI : LInv S nn mm) : ∀ (H : Heap) (locs : List Loc) (ls : Array Slot), va_P (gD G) clsL (wl (gA G) 57 (fS G S)) H → va_S (fun q => s.heap.size ≤ q) s.heap H locs → lv_has ls 4 [(0, .ref b), (1, .ref (gA G 0)), (2, .ref (gA G 44)), (3, .int (nI i))] → W p l e room_1 s m #[Value.ref b] below meth c H locs 57 3205 (lw_Z below #[Value.ref b] s) (F0 m 289 ls []) := by
  obtain ⟨hx, hb, hr, hml, hown, hts, hX, hbl, hlocks, hgv⟩ := C0
  have hbA : ¬ (fun q : Nat => s.heap.size ≤ q) b := Nat.not_le.mpr hbl
  obtain ⟨g, f9, hR, hM, hv9, hf9, h17, h22⟩ := hI.2.2.2.2
  have hnv9 := hR.2.2.2.1
  have hst9 := hR.2.1
  have hnf9 := hR.2.2.2.2.2.2.2.1
  intro H locs ls hP hS hl
  refine lv_aload_n hx hb d_LA_law_289 rfl (lv_at hl 1 rfl) ?_
  refine r_i hC hS (r_runV (np := 0) (As := []) (rest := []) hx hb hml hC hP hS (by decide) rfl rfl (m_LB_steps l G S) l_LA_45 im_LB_steps se_LB_steps in_LB c_LB_steps_in (by decide +kernel) ⟨(Nat.le_of_ble_eq_true rfl), (Nat.le_of_ble_eq_true rfl)⟩ rfl hl.1 (Nat.le_of_ble_eq_true rfl) d_LA_law_290 ⟨(Nat.le_of_ble_eq_true rfl), (Nat.le_of_ble_eq_true rfl)⟩) (fun r1 S1 H locs hw1 hP hS => ?_)
  obtain ⟨hr1, hSe1⟩ := hw1
  rw [hSe1] at hP
  refine lv_aload_n hx hb d_LA_law_293 rfl (lv_at hl 2 rfl) ?_
  refine r_i hC hS (r_runV (np := 0) (As := []) (rest := [.int r1]) hx hb hml hC hP hS (by decide) rfl rfl (m_MO_steps l G S) l_LA_48 im_MO_steps se_MO_steps in_MO c_MO_steps_in (by decide +kernel) ⟨(Nat.le_of_ble_eq_true rfl), (Nat.le_of_ble_eq_true rfl)⟩ rfl hl.1 (Nat.le_of_ble_eq_true rfl) d_LA_law_294 ⟨(Nat.le_of_ble_eq_true rfl), (Nat.le_of_ble_eq_true rfl)⟩) (fun r2 S2 H locs hw2 hP hS => ?_)
  obtain ⟨hr2, hSe2⟩ := hw2
  rw [hSe2] at hP
  have hre : r1 = r2 := hr1.trans ((hR.1.trans hM.1.symm).trans hr2.symm)
  have hI2 := hI.up
  refine lv_icmp_eq (tgt := 351) hx hb d_LA_law_297 (by decide) (fun _ => ?_) (fun c_297 => absurd hre c_297)
  refine lv_iinc (v := nI (i + 4)) (lv' := [(3, .int (nI (i + 4))), (0, .ref b), (1, .ref (gA G 0)), (2, .ref (gA G 44))]) hx hb d_LA_law_351 hl (k := 3) rfl (i4 i 4) (by decide) rfl (fun ls hl => ?_)
  refine lv_goto (tgt := 18) hx hb d_LA_law_354 (by decide) ?_
  exact ih (i + 4) _ _ (mm + 1) (by omega) (by omega) (by omega) hI2 _ _ _ hP hS (lv_sub hl [1, 2, 3, 0] rfl)
set_option maxHeartbeats 4000000 in
set_option maxRecDepth 100000 in
theorem law_events {p : Program} {e : Env} {s : State} {m : MethodId} {below : List Frame} {meth : Method} {c : Code} (l : Launch) {b L : Nat} {xs : Nat → Int32} (hL : L ≤ 2048) (C0 : lw_At p s m meth c b L xs) (G : WG) (hC : CC G "EndingsLabLaw" s m #[Value.ref b] (fun q => s.heap.size ≤ q)) (f : Nat) (ih : ∀ (i : Nat) (S : SS) (nn : Nat → Nat) (mm : Nat), i ≤ L + 4 → L + 4 < i + 4 * f → 4 * mm ≤ i → LInv S nn mm → ∀ (H : Heap) (locs : List Loc) (ls : Array Slot), va_P (gD G) clsL (wl (gA G) 57 (fS G S)) H → va_S (fun q => s.heap.size ≤ q) s.heap H locs → lv_has ls 4 [(0, .ref b), (1, .ref (gA G 0)), (2, .ref (gA G 44)), (3, .int (nI i))] → W p l e room_1 s m #[Value.ref b] below meth c H locs 57 3205 (lw_Z below #[Value.ref b] s) (F0 m 18 ls [])) (i : Nat) (S : SS) (nn : Nat → Nat) (mm : Nat) (hi : i + 4 ≤ L) (hf : L + 4 < i + 4 * (f + 1)) (hm : 4 * mm ≤ i) (hI : LInv S nn mm) : ∀ (H : Heap) (locs : List Loc) (ls : Array Slot), va_P (gD G) clsL (wl (gA G) 57 (fS G S)) H → va_S (fun q => s.heap.size ≤ q) s.heap H locs → lv_has ls 4 [(0, .ref b), (1, .ref (gA G 0)), (2, .ref (gA G 44)), (3, .int (nI i))] → W p l e room_1 s m #[Value.ref b] below meth c H locs 57 3205 (lw_Z below #[Value.ref b] s) (F0 m 302 ls []) := by
  obtain ⟨hx, hb, hr, hml, hown, hts, hX, hbl, hlocks, hgv⟩ := C0
  have hbA : ¬ (fun q : Nat => s.heap.size ≤ q) b := Nat.not_le.mpr hbl
  obtain ⟨g, f9, hR, hM, hv9, hf9, h17, h22⟩ := hI.2.2.2.2
  have hnv9 := hR.2.2.2.1
  have hst9 := hR.2.1
  have hnf9 := hR.2.2.2.2.2.2.2.1
  intro H locs ls hP hS hl
  refine lv_aload_n hx hb d_LA_law_302 rfl (lv_at hl 1 rfl) ?_
  refine r_i hC hS (r_runV (np := 0) (As := []) (rest := []) hx hb hml hC hP hS (by decide) rfl rfl (m_LB_events l G S) l_LA_49 im_LB_events se_LB_events in_LB c_LB_events_in (by decide +kernel) ⟨(Nat.le_of_ble_eq_true rfl), (Nat.le_of_ble_eq_true rfl)⟩ rfl hl.1 (Nat.le_of_ble_eq_true rfl) d_LA_law_303 ⟨(Nat.le_of_ble_eq_true rfl), (Nat.le_of_ble_eq_true rfl)⟩) (fun r1 S1 H locs hw1 hP hS => ?_)
  obtain ⟨hr1, hSe1⟩ := hw1
  rw [hSe1] at hP
  refine lv_aload_n hx hb d_LA_law_306 rfl (lv_at hl 2 rfl) ?_
  refine r_i hC hS (r_runV (np := 0) (As := []) (rest := [.int r1]) hx hb hml hC hP hS (by decide) rfl rfl (m_MO_events l G S) l_LA_52 im_MO_events se_MO_events in_MO c_MO_events_in (by decide +kernel) ⟨(Nat.le_of_ble_eq_true rfl), (Nat.le_of_ble_eq_true rfl)⟩ rfl hl.1 (Nat.le_of_ble_eq_true rfl) d_LA_law_307 ⟨(Nat.le_of_ble_eq_true rfl), (Nat.le_of_ble_eq_true rfl)⟩) (fun r2 S2 H locs hw2 hP hS => ?_)
  obtain ⟨hr2, hSe2⟩ := hw2
  rw [hSe2] at hP
  have hre : r1 = r2 := hr1.trans ((hR.2.2.1.trans hM.2.2.1.symm).trans hr2.symm)
  have hI2 := hI.up
  refine lv_icmp_eq (tgt := 351) hx hb d_LA_law_310 (by decide) (fun _ => ?_) (fun c_310 => absurd hre c_310)
  refine lv_iinc (v := nI (i + 4)) (lv' := [(3, .int (nI (i + 4))), (0, .ref b), (1, .ref (gA G 0)), (2, .ref (gA G 44))]) hx hb d_LA_law_351 hl (k := 3) rfl (i4 i 4) (by decide) rfl (fun ls hl => ?_)
  refine lv_goto (tgt := 18) hx hb d_LA_law_354 (by decide) ?_
  exact ih (i + 4) _ _ (mm + 1) (by omega) (by omega) (by omega) hI2 _ _ _ hP hS (lv_sub hl [1, 2, 3, 0] rfl)
set_option maxHeartbeats 4000000 in
set_option maxRecDepth 100000 in
theorem law_event {p : Program} {e : Env} {s : State} {m : MethodId} {below : List Frame} {meth : Method} {c : Code} (l : Launch) {b L : Nat} {xs : Nat → Int32} (hL : L ≤ 2048) (C0 : lw_At p s m meth c b L xs) (G : WG) (hC : CC G "EndingsLabLaw" s m #[Value.ref b] (fun q => s.heap.size ≤ q)) (f : Nat) (ih : ∀ (i : Nat) (S : SS) (nn : Nat → Nat) (mm : Nat), i ≤ L + 4 → L + 4 < i + 4 * f → 4 * mm ≤ i → LInv S nn mm → ∀ (H : Heap) (locs : List Loc) (ls : Array Slot), va_P (gD G) clsL (wl (gA G) 57 (fS G S)) H → va_S (fun q => s.heap.size ≤ q) s.heap H locs → lv_has ls 4 [(0, .ref b), (1, .ref (gA G 0)), (2, .ref (gA G 44)), (3, .int (nI i))] → W p l e room_1 s m #[Value.ref b] below meth c H locs 57 3205 (lw_Z below #[Value.ref b] s) (F0 m 18 ls [])) (i : Nat) (S : SS) (nn : Nat → Nat) (mm : Nat) (hi : i + 4 ≤ L) (hf : L + 4 < i + 4 * (f + 1)) (hm : 4 * mm ≤ i) (hI : LInv S nn mm) : ∀ (H : Heap) (locs : List Loc) (ls : Array Slot), va_P (gD G) clsL (wl (gA G) 57 (fS G S)) H → va_S (fun q => s.heap.size ≤ q) s.heap H locs → lv_has ls 4 [(0, .ref b), (1, .ref (gA G 0)), (2, .ref (gA G 44)), (3, .int (nI i))] → W p l e room_1 s m #[Value.ref b] below meth c H locs 57 3205 (lw_Z below #[Value.ref b] s) (F0 m 315 ls []) := by
  obtain ⟨hx, hb, hr, hml, hown, hts, hX, hbl, hlocks, hgv⟩ := C0
  have hbA : ¬ (fun q : Nat => s.heap.size ≤ q) b := Nat.not_le.mpr hbl
  obtain ⟨g, f9, hR, hM, hv9, hf9, h17, h22⟩ := hI.2.2.2.2
  have hnv9 := hR.2.2.2.1
  have hst9 := hR.2.1
  have hnf9 := hR.2.2.2.2.2.2.2.1
  intro H locs ls hP hS hl
  refine lv_aload_n hx hb d_LA_law_315 rfl (lv_at hl 1 rfl) ?_
  refine lv_aload_n hx hb d_LA_law_316 rfl (lv_at hl 0 rfl) ?_
  refine lv_iload_n hx hb d_LA_law_317 rfl (lv_at hl 3 rfl) ?_
  refine lv_iconst (v := 1) hx hb d_LA_law_318 (by decide) ?_
  refine lv_iadd hx hb d_LA_law_319 ?_
  rw [show nI i + 1 = nI (i + 1) from i4 i 1]
  refine va_sld hx hb hX hbl hbA hS (vp_in_nI (show i + 1 < L by omega) (by omega)) d_LA_law_320 ?_
  refine r_i hC hS (r_runV (np := 1) (As := [.int (xs (nI (i + 1)).toNatClampNeg)]) (rest := []) hx hb hml hC hP hS (by decide) rfl rfl (m_LB_event l G S (gnv g) (by omega) hR.2.2.1 (xs (nI (i + 1)).toNatClampNeg)) l_LA_53 im_LB_event se_LB_event in_LB c_LB_event_in (by decide +kernel) ⟨(Nat.le_of_ble_eq_true rfl), (Nat.le_of_ble_eq_true rfl)⟩ rfl hl.1 (Nat.le_of_ble_eq_true rfl) d_LA_law_321 ⟨(Nat.le_of_ble_eq_true rfl), (Nat.le_of_ble_eq_true rfl)⟩) (fun r1 S1 H locs hw1 hP hS => ?_)
  obtain ⟨hr1, hSe1⟩ := hw1
  rw [hSe1] at hP
  refine lv_aload_n hx hb d_LA_law_324 rfl (lv_at hl 2 rfl) ?_
  refine lv_aload_n hx hb d_LA_law_325 rfl (lv_at hl 0 rfl) ?_
  refine lv_iload_n hx hb d_LA_law_326 rfl (lv_at hl 3 rfl) ?_
  refine lv_iconst (v := 1) hx hb d_LA_law_327 (by decide) ?_
  refine lv_iadd hx hb d_LA_law_328 ?_
  rw [show nI i + 1 = nI (i + 1) from i4 i 1]
  refine va_sld hx hb hX hbl hbA hS (vp_in_nI (show i + 1 < L by omega) (by omega)) d_LA_law_329 ?_
  refine r_i hC hS (r_runV (np := 1) (As := [.int (xs (nI (i + 1)).toNatClampNeg)]) (rest := [.int r1]) hx hb hml hC hP hS (by decide) rfl rfl (m_MO_event l G S (gnv g) (by omega) hM.2.2.1 (xs (nI (i + 1)).toNatClampNeg)) l_LA_56 im_MO_event se_MO_event in_MO c_MO_event_in (by decide +kernel) ⟨(Nat.le_of_ble_eq_true rfl), (Nat.le_of_ble_eq_true rfl)⟩ rfl hl.1 (Nat.le_of_ble_eq_true rfl) d_LA_law_330 ⟨(Nat.le_of_ble_eq_true rfl), (Nat.le_of_ble_eq_true rfl)⟩) (fun r2 S2 H locs hw2 hP hS => ?_)
  obtain ⟨hr2, hSe2⟩ := hw2
  rw [hSe2] at hP
  have hre : r1 = r2 := hr1.trans ((ev_eq hR hM _).trans hr2.symm)
  have hI2 := hI.up
  refine lv_icmp_eq (tgt := 351) hx hb d_LA_law_333 (by decide) (fun _ => ?_) (fun c_333 => absurd hre c_333)
  refine lv_iinc (v := nI (i + 4)) (lv' := [(3, .int (nI (i + 4))), (0, .ref b), (1, .ref (gA G 0)), (2, .ref (gA G 44))]) hx hb d_LA_law_351 hl (k := 3) rfl (i4 i 4) (by decide) rfl (fun ls hl => ?_)
  refine lv_goto (tgt := 18) hx hb d_LA_law_354 (by decide) ?_
  exact ih (i + 4) _ _ (mm + 1) (by omega) (by omega) (by omega) hI2 _ _ _ hP hS (lv_sub hl [1, 2, 3, 0] rfl)
set_option maxHeartbeats 4000000 in
set_option maxRecDepth 100000 in
theorem law_most {p : Program} {e : Env} {s : State} {m : MethodId} {below : List Frame} {meth : Method} {c : Code} (l : Launch) {b L : Nat} {xs : Nat → Int32} (hL : L ≤ 2048) (C0 : lw_At p s m meth c b L xs) (G : WG) (hC : CC G "EndingsLabLaw" s m #[Value.ref b] (fun q => s.heap.size ≤ q)) (f : Nat) (ih : ∀ (i : Nat) (S : SS) (nn : Nat → Nat) (mm : Nat), i ≤ L + 4 → L + 4 < i + 4 * f → 4 * mm ≤ i → LInv S nn mm → ∀ (H : Heap) (locs : List Loc) (ls : Array Slot), va_P (gD G) clsL (wl (gA G) 57 (fS G S)) H → va_S (fun q => s.heap.size ≤ q) s.heap H locs → lv_has ls 4 [(0, .ref b), (1, .ref (gA G 0)), (2, .ref (gA G 44)), (3, .int (nI i))] → W p l e room_1 s m #[Value.ref b] below meth c H locs 57 3205 (lw_Z below #[Value.ref b] s) (F0 m 18 ls [])) (i : Nat) (S : SS) (nn : Nat → Nat) (mm : Nat) (hi : i + 4 ≤ L) (hf : L + 4 < i + 4 * (f + 1)) (hm : 4 * mm ≤ i) (hI : LInv S nn mm) : ∀ (H : Heap) (locs : List Loc) (ls : Array Slot), va_P (gD G) clsL (wl (gA G) 57 (fS G S)) H → va_S (fun q => s.heap.size ≤ q) s.heap H locs → lv_has ls 4 [(0, .ref b), (1, .ref (gA G 0)), (2, .ref (gA G 44)), (3, .int (nI i))] → W p l e room_1 s m #[Value.ref b] below meth c H locs 57 3205 (lw_Z below #[Value.ref b] s) (F0 m 338 ls []) := by
  obtain ⟨hx, hb, hr, hml, hown, hts, hX, hbl, hlocks, hgv⟩ := C0
  have hbA : ¬ (fun q : Nat => s.heap.size ≤ q) b := Nat.not_le.mpr hbl
  obtain ⟨g, f9, hR, hM, hv9, hf9, h17, h22⟩ := hI.2.2.2.2
  have hnv9 := hR.2.2.2.1
  have hst9 := hR.2.1
  have hnf9 := hR.2.2.2.2.2.2.2.1
  intro H locs ls hP hS hl
  refine lv_aload_n hx hb d_LA_law_338 rfl (lv_at hl 1 rfl) ?_
  refine r_i hC hS (r_runV (np := 0) (As := []) (rest := []) hx hb hml hC hP hS (by decide) rfl rfl (m_LB_most l G S) l_LA_57 im_LB_most se_LB_most in_LB c_LB_most_in (by decide +kernel) ⟨(Nat.le_of_ble_eq_true rfl), (Nat.le_of_ble_eq_true rfl)⟩ rfl hl.1 (Nat.le_of_ble_eq_true rfl) d_LA_law_339 ⟨(Nat.le_of_ble_eq_true rfl), (Nat.le_of_ble_eq_true rfl)⟩) (fun r1 S1 H locs hw1 hP hS => ?_)
  obtain ⟨hr1, hSe1⟩ := hw1
  rw [hSe1] at hP
  refine lv_aload_n hx hb d_LA_law_342 rfl (lv_at hl 2 rfl) ?_
  refine r_i hC hS (r_runV (np := 0) (As := []) (rest := [.int r1]) hx hb hml hC hP hS (by decide) rfl rfl (m_MO_most l G S) l_LA_60 im_MO_most se_MO_most in_MO c_MO_most_in (by decide +kernel) ⟨(Nat.le_of_ble_eq_true rfl), (Nat.le_of_ble_eq_true rfl)⟩ rfl hl.1 (Nat.le_of_ble_eq_true rfl) d_LA_law_343 ⟨(Nat.le_of_ble_eq_true rfl), (Nat.le_of_ble_eq_true rfl)⟩) (fun r2 S2 H locs hw2 hP hS => ?_)
  obtain ⟨hr2, hSe2⟩ := hw2
  rw [hSe2] at hP
  have hre : r1 = r2 := hr1.trans ((hR.2.2.2.2.2.1.trans hM.2.2.2.2.2.1.symm).trans hr2.symm)
  have hI2 := hI.up
  refine lv_icmp_eq (tgt := 351) hx hb d_LA_law_346 (by decide) (fun _ => ?_) (fun c_346 => absurd hre c_346)
  refine lv_iinc (v := nI (i + 4)) (lv' := [(3, .int (nI (i + 4))), (0, .ref b), (1, .ref (gA G 0)), (2, .ref (gA G 44))]) hx hb d_LA_law_351 hl (k := 3) rfl (i4 i 4) (by decide) rfl (fun ls hl => ?_)
  refine lv_goto (tgt := 18) hx hb d_LA_law_354 (by decide) ?_
  exact ih (i + 4) _ _ (mm + 1) (by omega) (by omega) (by omega) hI2 _ _ _ hP hS (lv_sub hl [1, 2, 3, 0] rfl)
set_option maxHeartbeats 4000000 in
set_option maxRecDepth 100000 in
theorem law_loop {p : Program} {e : Env} {s : State} {m : MethodId} {below : List Frame} {meth : Method} {c : Code} (l : Launch) {b L : Nat} {xs : Nat → Int32} (hL : L ≤ 2048) (C0 : lw_At p s m meth c b L xs) (G : WG) (hC : CC G "EndingsLabLaw" s m #[Value.ref b] (fun q => s.heap.size ≤ q)) : ∀ (f i : Nat) (S : SS) (nn : Nat → Nat) (mm : Nat), i ≤ L + 4 → L + 4 < i + 4 * f → 4 * mm ≤ i → LInv S nn mm → ∀ (H : Heap) (locs : List Loc) (ls : Array Slot), va_P (gD G) clsL (wl (gA G) 57 (fS G S)) H → va_S (fun q => s.heap.size ≤ q) s.heap H locs → lv_has ls 4 [(0, .ref b), (1, .ref (gA G 0)), (2, .ref (gA G 44)), (3, .int (nI i))] → W p l e room_1 s m #[Value.ref b] below meth c H locs 57 3205 (lw_Z below #[Value.ref b] s) (F0 m 18 ls []) := by
  intro f
  induction f with
  | zero =>
    intro i S nn mm h1 h2
    exact absurd h2 (by omega)
  | succ f ih =>
    intro i S nn mm h1 hf hm hI
    have t_token := fun hi : i + 4 ≤ L => law_token (below := below) (e := e) l hL C0 G hC f ih i S nn mm hi hf hm hI
    have t_wipe := fun hi : i + 4 ≤ L => law_wipe (below := below) (e := e) l hL C0 G hC f ih i S nn mm hi hf hm hI
    have t_check := fun hi : i + 4 ≤ L => law_check (below := below) (e := e) l hL C0 G hC f ih i S nn mm hi hf hm hI
    have t_place := fun hi : i + 4 ≤ L => law_place (below := below) (e := e) l hL C0 G hC f ih i S nn mm hi hf hm hI
    have t_run := fun hi : i + 4 ≤ L => law_run (below := below) (e := e) l hL C0 G hC f ih i S nn mm hi hf hm hI
    have t_value := fun hi : i + 4 ≤ L => law_value (below := below) (e := e) l hL C0 G hC f ih i S nn mm hi hf hm hI
    have t_fault := fun hi : i + 4 ≤ L => law_fault (below := below) (e := e) l hL C0 G hC f ih i S nn mm hi hf hm hI
    have t_steps := fun hi : i + 4 ≤ L => law_steps (below := below) (e := e) l hL C0 G hC f ih i S nn mm hi hf hm hI
    have t_events := fun hi : i + 4 ≤ L => law_events (below := below) (e := e) l hL C0 G hC f ih i S nn mm hi hf hm hI
    have t_event := fun hi : i + 4 ≤ L => law_event (below := below) (e := e) l hL C0 G hC f ih i S nn mm hi hf hm hI
    have t_most := fun hi : i + 4 ≤ L => law_most (below := below) (e := e) l hL C0 G hC f ih i S nn mm hi hf hm hI
    obtain ⟨hx, hb, hr, hml, hown, hts, hX, hbl, hlocks, hgv⟩ := C0
    have hbA : ¬ (fun q : Nat => s.heap.size ≤ q) b := Nat.not_le.mpr hbl
    intro H locs ls hP hS hl
    refine lv_iload_n hx hb d_LA_law_18 rfl (lv_at hl 3 rfl) ?_
    refine lv_aload_n hx hb d_LA_law_19 rfl (lv_at hl 0 rfl) ?_
    refine va_slen hx hb hX hbl hbA hS d_LA_law_20 ?_
    refine lv_iconst (v := 4) hx hb d_LA_law_21 (by decide) ?_
    refine lv_isub hx hb d_LA_law_22 ?_
    refine lv_icmp_gt (tgt := 357) hx hb d_LA_law_23 (by decide) (fun c_23 => ?_) (fun c_23 => ?_)
    · refine lv_iconst (v := 1) hx hb d_LA_law_357 (by decide) ?_
      refine va_forget (fun q hq => hS.2.2 q hq) ?_
      refine W.widen (k := 600000) (n := 7302250) (by decide) (by decide) ?_
      exact lw_ret hx hb hr hlocks d_LA_law_358
    · have hi : i + 4 ≤ L := l4 hL (by omega) c_23
      refine lv_aload_n hx hb d_LA_law_26 rfl (lv_at hl 0 rfl) ?_
      refine lv_iload_n hx hb d_LA_law_27 rfl (lv_at hl 3 rfl) ?_
      refine va_sld hx hb hX hbl hbA hS (vp_in_nI (show i < L by omega) (by omega)) d_LA_law_28 ?_
      refine lv_bipush (v := 15) hx hb d_LA_law_29 (by decide) ?_
      refine lv_iand hx hb d_LA_law_31 ?_
      generalize xs (nI i).toNatClampNeg &&& 15 = z
      by_cases hlo : z.toInt < 0 ∨ 10 < z.toInt
      · refine lv_tableOut (tgt := 351) hx hb d_LA_law_32 hlo (by decide) ?_
        refine lv_iinc (v := nI (i + 4)) (lv' := [(3, .int (nI (i + 4))), (0, .ref b), (1, .ref (gA G 0)), (2, .ref (gA G 44))]) hx hb d_LA_law_351 hl (k := 3) rfl (i4 i 4) (by decide) rfl (fun ls hl => ?_)
        refine lv_goto (tgt := 18) hx hb d_LA_law_354 (by decide) ?_
        exact ih (i + 4) _ _ (mm + 1) (by omega) (by omega) (by omega) hI.up _ _ _ hP hS (lv_sub hl [1, 2, 3, 0] rfl)
      · obtain ⟨h1_32, h2_32⟩ := not_or.mp hlo
        rcases (show z.toInt = 0 ∨ z.toInt = 1 ∨ z.toInt = 2 ∨ z.toInt = 3 ∨ z.toInt = 4 ∨ z.toInt = 5 ∨ z.toInt = 6 ∨ z.toInt = 7 ∨ z.toInt = 8 ∨ z.toInt = 9 ∨ z.toInt = 10 by omega) with hk_32 | hk_32 | hk_32 | hk_32 | hk_32 | hk_32 | hk_32 | hk_32 | hk_32 | hk_32 | hk_32
        · refine lv_tableIn (off := 60) (tgt := 92) hx hb d_LA_law_32 h1_32 h2_32 (by rw [hk_32]; rfl) (by decide) ?_
          exact t_token hi H locs ls hP hS hl
        · refine lv_tableIn (off := 103) (tgt := 135) hx hb d_LA_law_32 h1_32 h2_32 (by rw [hk_32]; rfl) (by decide) ?_
          exact t_wipe hi H locs ls hP hS hl
        · refine lv_tableIn (off := 126) (tgt := 158) hx hb d_LA_law_32 h1_32 h2_32 (by rw [hk_32]; rfl) (by decide) ?_
          exact t_check hi H locs ls hP hS hl
        · refine lv_tableIn (off := 149) (tgt := 181) hx hb d_LA_law_32 h1_32 h2_32 (by rw [hk_32]; rfl) (by decide) ?_
          exact t_place hi H locs ls hP hS hl
        · refine lv_tableIn (off := 162) (tgt := 194) hx hb d_LA_law_32 h1_32 h2_32 (by rw [hk_32]; rfl) (by decide) ?_
          exact t_run hi H locs ls hP hS hl
        · refine lv_tableIn (off := 221) (tgt := 253) hx hb d_LA_law_32 h1_32 h2_32 (by rw [hk_32]; rfl) (by decide) ?_
          exact t_value hi H locs ls hP hS hl
        · refine lv_tableIn (off := 234) (tgt := 266) hx hb d_LA_law_32 h1_32 h2_32 (by rw [hk_32]; rfl) (by decide) ?_
          exact t_fault hi H locs ls hP hS hl
        · refine lv_tableIn (off := 257) (tgt := 289) hx hb d_LA_law_32 h1_32 h2_32 (by rw [hk_32]; rfl) (by decide) ?_
          exact t_steps hi H locs ls hP hS hl
        · refine lv_tableIn (off := 270) (tgt := 302) hx hb d_LA_law_32 h1_32 h2_32 (by rw [hk_32]; rfl) (by decide) ?_
          exact t_events hi H locs ls hP hS hl
        · refine lv_tableIn (off := 283) (tgt := 315) hx hb d_LA_law_32 h1_32 h2_32 (by rw [hk_32]; rfl) (by decide) ?_
          exact t_event hi H locs ls hP hS hl
        · refine lv_tableIn (off := 306) (tgt := 338) hx hb d_LA_law_32 h1_32 h2_32 (by rw [hk_32]; rfl) (by decide) ?_
          exact t_most hi H locs ls hP hS hl
