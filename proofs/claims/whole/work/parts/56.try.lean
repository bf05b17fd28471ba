/-! the class's doTry: written by wip/gen/p56.py -/
theorem fnd_none {f : Nat → Bool} : ∀ {n : Nat}, (∀ j, j < n → f j = false) → fndA f n = n := by
  intro n
  induction n with
  | zero => intro _; rfl
  | succ n ih =>
    intro h
    have h1 := ih (fun j hj => h j (by omega))
    show (if fndA f n < n then fndA f n else if f n = true then n else n + 1) = n + 1
    rw [h1, if_neg (by omega), if_neg (by rw [h n (by omega)]; decide)]
theorem fnd_some {f : Nat → Bool} {c : Nat} (hc : f c = true) (hn : ∀ j, j < c → f j = false) : ∀ {n : Nat}, c < n → fndA f n = c := by
  intro n
  induction n with
  | zero => intro h; exact absurd h (by omega)
  | succ n ih =>
    intro h
    show (if fndA f n < n then fndA f n else if f n = true then n else n + 1) = c
    rcases (show c < n ∨ c = n by omega) with h1 | h1
    · rw [ih h1, if_pos h1]
    · subst h1
      rw [fnd_none hn, if_neg (by omega), if_pos hc]
theorem fKind_id {X : SS} {g : GS} (h : RL X g) {id : Nat} (h0 : 0 < id) (hn : id ≤ gnf g) : fKind X (nI id - 1) (gnf g) = gfk g id := by
  have h3 := h.2.2.2.2.2.2.2.1
  obtain ⟨k, rfl⟩ : ∃ k, id = k + 1 := ⟨id - 1, by omega⟩
  unfold fKind
  rw [nI_pred, if_pos (isB_of (by omega) (by omega)), nI_clamp (by omega)]
  exact (h.2.2.2.2.2.2.2.2 k (by omega)).1
def fkT (ar : Nat → Int32) (E : Nat → Nat) (i : Nat) (r : RR) (j : Nat) : Bool := isK (gfk r.2.2.2.1 r.2.2.1) (ar (PT E i j))
theorem sCat_no4 {ar : Nat → Int32} {E : Nat → Nat} {rec : Nat → Nat → SG → RR} {i : Nat} {r : RR} (h : ¬ r.1 = 4) : sCat ar E rec i r = r := if_neg h
theorem sCat_none {ar : Nat → Int32} {E : Nat → Nat} {rec : Nat → Nat → SG → RR} {i : Nat} {r : RR} (h : ∀ j, j < tNc ar i → fkT ar E i r j = false) : sCat ar E rec i r = r := by
  by_cases h4 : r.1 = 4
  · unfold sCat
    rw [if_pos h4, if_neg]
    have := fnd_none (f := fun j => isK (gfk r.2.2.2.1 r.2.2.1) (ar (PT E i j))) (n := tNc ar i) h
    omega
  · exact sCat_no4 h4
theorem sCat_some {ar : Nat → Int32} {E : Nat → Nat} {rec : Nat → Nat → SG → RR} {i j : Nat} {r : RR} (h4 : r.1 = 4) (hj : j < tNc ar i) (hy : fkT ar E i r j = true) (hn : ∀ k, k < j → fkT ar E i r k = false) : sCat ar E rec i r = rec r.2.2.1 (PT E i j + 1) r.2.2.2 := by
  unfold sCat
  have := fnd_some (f := fun j => isK (gfk r.2.2.2.1 r.2.2.1) (ar (PT E i j))) hy hn hj
  rw [if_pos h4, if_pos (by rw [this]; exact hj), this]
set_option maxHeartbeats 4000000 in
set_option maxRecDepth 100000 in
theorem m_MA_doTry_loop (l : Launch) (G : WG) (S : SS) (op ar : Nat → Int32) (E sz : Nat → Nat) (F h q p c o : Nat) (s : SG) (hq : q < 6) (hp : p < 4) (hok : OKs S op ar E sz q p c s) (ho : o < sz p) (h9 : op (32 * p + o) = 9) (hlk9 : lkOK (ar (32 * p + o))) (hpt : ∀ j, j < (tNc ar (32 * p + o)) + (if (tLa ar (32 * p + o)) = true then 1 else 0) → 32 * p ≤ PT E (32 * p + o) j ∧ PT E (32 * p + o) j < 32 * p + sz p) (hB0 : DoB l G op ar E sz F h q p o) (hBc : ∀ j, j < (tNc ar (32 * p + o)) → DoB l G op ar E sz F h q p (PT E (32 * p + o) j - 32 * p)) (hBl : (tLa ar (32 * p + o)) = true → DoB l G op ar E sz F h q p (PT E (32 * p + o) (tNc ar (32 * p + o)) - 32 * p)) {pp_ : Program} {ee_ : Env} {ss_ : State} {mm_ : MethodId} {be_ : List Frame} {me_ : Method} {co_ : Code} (hx : pp_.tables.exec = Jvm.exec) (hb : co_.code = b_MA_doTry) (hr : me_.sig.returnType = (some (.object "EndingsLab$Ending"))) (hlk : me_.locks = false) (hml : co_.maxLocals = 8) (hC : CC G "EndingsLab$Machine" ss_ mm_ ([.ref (gA G 1), .int (nI q), .int (nI o)] : List Value).toArray (AA G)) :
    ∀ (f : Nat) (j : Nat) (X : SS) (r : RR) (sk : Bool), j ≤ (tNc ar (32 * p + o)) → (tNc ar (32 * p + o)) < j + f → r.1 < 6 → BlkP S X q p c (gnf s.1) r.1 r → (sk = false → r = sCat ar E (sB op ar E sz F q) (32 * p + o) (sB op ar E sz F q c ((32 * p + o) + 1) s)) → (sk = true → r = (sB op ar E sz F q c ((32 * p + o) + 1) s) ∧ r.1 = 4 ∧ ∀ j2, j2 < j → fkT ar E (32 * p + o) (sB op ar E sz F q c ((32 * p + o) + 1) s) j2 = false) → 32 * p ≤ PT E (32 * p + o) j ∧ PT E (32 * p + o) j ≤ 32 * p + sz p →  ∀ (H : Heap) (locs : List Loc) (ls : Array Slot), va_P (gD G) clsL (wl (gA G) 57 (fS G X)) H → va_S (AA G) ss_.heap H locs → lv_has ls 8 [(0, .ref (gA G 1)), (1, .int (nI q)), (2, .int (nI o)), (3, .ref (gA G (11 + 4 * p))), (4, .ref (gE G r.1)), (5, .int (b2i sk)), (6, .int (nI (PT E (32 * p + o) j - 32 * p))), (7, .int (nI j))] → W pp_ l ee_ (rmF (h + 3)) ss_ mm_ ([.ref (gA G 1), .int (nI q), .int (nI o)] : List Value).toArray be_ me_ co_ H locs 0 0 (MQ be_ (va_Qr (S := Nat × SS) (fun u => u.1 < 6 ∧ (fun e S1 => BlkP S S1 q p c (gnf s.1) e (sTry ar E (sB op ar E sz F q) c (32 * p + o) s)) u.1 u.2) (fun u b t => b = gE G u.1 ∧ WD G u.2 t) (AA G)) ([.ref (gA G 1), .int (nI q), .int (nI o)] : List Value).toArray ss_ 0 0 (AA G)) (F0 mm_ 42 ls []) := by
  intro f
  induction f with
  | zero =>
    intro j X r sk hj hf hr6 hB hsf hst hplo H locs ls hP hS hl
    exact absurd hf (by omega)
  | succ f ih =>
    intro j X r sk hj hf hr6 hB hsf hst hplo H locs ls hP hS hl
    have hTX := hok.1.kb hB.2.1
    have hTp := hTX p hp
    have hnc3 : (tNc ar (32 * p + o)) < 3 := by obtain ⟨kk, hkk, ekk⟩ := lkOK_nc hlk9; unfold tNc; rw [ekk, nI_clamp (by omega)]; exact hkk
    refine lv_iload hx hb d_MA_doTry_42 (lv_at hl 7 rfl) ?_
    refine lv_aload_n hx hb d_MA_doTry_44 rfl (lv_at hl 3 rfl) ?_
    refine lv_iload_n hx hb d_MA_doTry_45 rfl (lv_at hl 2 rfl) ?_
    refine r_i hC hS (r_runV (np := 1) (As := [.int (nI o)]) (rest := [.int (nI j)]) hx hb hml hC hP hS (by omega) (sh_T G _ hp) rfl (m_TE_catchesOf l G X p o hp (by omega)) l_MA_180 im_TE_catchesOf se_TE_catchesOf in_TE c_TE_catchesOf_in (by decide +kernel) ⟨by simp only [rmF]; omega, by simp only [rmF]; omega⟩ rfl hl.1 (Nat.le_of_ble_eq_true rfl) d_MA_doTry_46 ⟨Nat.le_refl _, Nat.le_refl _⟩) (fun r_46 S_46 H locs hw hP hS => ?_)
    obtain ⟨rfl, hSe⟩ := hw
    rw [hSe] at hP
    rw [show tCat X p o = nI (tNc ar (32 * p + o)) from by unfold tCat; rw [(hTp.2.2 o ho).1, (hTp.2.2 o ho).2.1, if_pos h9]; unfold tNc; obtain ⟨kk, hkk, ekk⟩ := lkOK_nc hlk9; rw [ekk, nI_clamp (by omega)]]
    refine lv_icmp_ge (tgt := 105) hx hb d_MA_doTry_49 (by decide) (fun c_49 => ?_) (fun c_49 => ?_)
    · have c_49 : (tNc ar (32 * p + o)) ≤ j := (q_le (a := (tNc ar (32 * p + o))) (b := j) rfl rfl (by omega) (by omega)).mp c_49
      have hsk : r = sCat ar E (sB op ar E sz F q) (32 * p + o) (sB op ar E sz F q c ((32 * p + o) + 1) s) := by cases hs9 : sk with | false => exact hsf hs9 | true => (rw [sCat_none (fun j2 hj2 => (hst hs9).2.2 j2 (by omega))]; exact (hst hs9).1)
      refine lv_aload hx hb d_MA_doTry_105 (lv_at hl 4 rfl) ?_
      refine r_enum hx hb hC hS 5 (by decide) l_MA_67 d_MA_doTry_107 ?_
      refine lv_acmp_eq (rx := some (gE G r.1)) (ry := some (gE G 5)) (tgt := 130) hx hb d_MA_doTry_110 (by decide) (fun c_110 => ?_) (fun c_110 => ?_)
      · have c_110 := gE_eq hC.2.2.1 hr6 (by decide) c_110
        refine lv_aload hx hb d_MA_doTry_130 (lv_at hl 4 rfl) ?_
        exact e_e (post := fun e S1 => BlkP S S1 q p c (gnf s.1) e (sTry ar E (sB op ar E sz F q) c (32 * p + o) s)) hx hb hr hlk hC hP hS d_MA_doTry_132 hr6 (by unfold sTry; rw [if_pos (Or.inl (by rw [← hsk]; exact c_110)), ← hsk]; exact hB)
      · have c_110 := gE_ne c_110
        refine lv_aload_n hx hb d_MA_doTry_113 rfl (lv_at hl 3 rfl) ?_
        refine lv_iload_n hx hb d_MA_doTry_114 rfl (lv_at hl 2 rfl) ?_
        refine r_i hC hS (r_runV (np := 1) (As := [.int (nI o)]) (rest := []) hx hb hml hC hP hS (by omega) (sh_T G _ hp) rfl (m_TE_hasLast l G X p o hp (by omega)) l_MA_190 im_TE_hasLast se_TE_hasLast in_TE c_TE_hasLast_in (by decide +kernel) ⟨by simp only [rmF]; omega, by simp only [rmF]; omega⟩ rfl hl.1 (Nat.le_of_ble_eq_true rfl) d_MA_doTry_115 ⟨Nat.le_refl _, Nat.le_refl _⟩) (fun r_115 S_115 H locs hw hP hS => ?_)
        obtain ⟨rfl, hSe⟩ := hw
        rw [hSe] at hP
        rw [show tLast X p o = (tLa ar (32 * p + o)) from by unfold tLast tLa; rw [(hTp.2.2 o ho).1, (hTp.2.2 o ho).2.1, decide_eq_true h9, lkOK_la hlk9]; rfl]
        refine lv_if_eq (tgt := 130) hx hb d_MA_doTry_118 (by decide) (fun c_118 => ?_) (fun c_118 => ?_)
        · have c_118 := b2i_f c_118
          refine lv_aload hx hb d_MA_doTry_130 (lv_at hl 4 rfl) ?_
          exact e_e (post := fun e S1 => BlkP S S1 q p c (gnf s.1) e (sTry ar E (sB op ar E sz F q) c (32 * p + o) s)) hx hb hr hlk hC hP hS d_MA_doTry_132 hr6 (by unfold sTry; rw [if_pos (Or.inr c_118), ← hsk]; exact hB)
        · have c_118 := b2i_t c_118
          refine lv_iload hx hb d_MA_doTry_121 (lv_at hl 6 rfl) ?_
          refine lv_aload_n hx hb d_MA_doTry_123 rfl (lv_at hl 3 rfl) ?_
          refine r_getN hx hb hC hP i_TE (11 + 4 * p) (by omega) (sh_T G _ hp) rfl 3 (by decide) k_MA_117 rfl d_MA_doTry_124 ?_
          rw [show X (11 + 4 * p) 3 = nI (sz p) from hTp.1]
          refine lv_icmp_lt (tgt := 133) hx hb d_MA_doTry_127 (by decide) (fun c_127 => ?_) (fun c_127 => ?_)
          · have c_127 : PT E (32 * p + o) j - 32 * p < sz p := (q_lt (a := PT E (32 * p + o) j - 32 * p) (b := sz p) rfl rfl (by omega) (by omega)).mp c_127
            refine lv_aload_n hx hb d_MA_doTry_133 rfl (lv_at hl 0 rfl) ?_
            refine lv_iload_n hx hb d_MA_doTry_134 rfl (lv_at hl 1 rfl) ?_
            refine lv_iload hx hb d_MA_doTry_135 (lv_at hl 6 rfl) ?_
            refine lv_aload hx hb d_MA_doTry_137 (lv_at hl 4 rfl) ?_
            refine r_e (post := fun e S1 => BlkP X S1 q p c (gnf r.2.2.2.1) e (sLst (sB op ar E sz F q c (32 * p + (PT E (32 * p + o) j - 32 * p) + 1)) r)) hC hS (r_runV (np := 3) (As := [.int (nI q), .int (nI (PT E (32 * p + o) j - 32 * p)), .ref (gE G r.1)]) (rest := []) hx hb hml hC hP hS (by decide) rfl rfl (m_MA_doLast l G X op ar E sz F h q p c (PT E (32 * p + o) j - 32 * p) r hq hp (hB.aft hok.1 c_110) hr6 (by have h8 := hBl c_118; rw [show (tNc ar (32 * p + o)) = j by omega] at h8; exact h8)) l_MA_193 im_MA_doLast se_MA_doLast in_MA c_MA_doLast_in (by decide +kernel) ⟨by simp only [rmF]; omega, by simp only [rmF]; omega⟩ rfl hl.1 (Nat.le_of_ble_eq_true rfl) d_MA_doTry_139 ⟨Nat.le_refl _, Nat.le_refl _⟩) (fun i_139 S_139 H locs hi_139 hw hP hS => ?_)
            have hw_139 := hw
            exact e_e (post := fun e S1 => BlkP S S1 q p c (gnf s.1) e (sTry ar E (sB op ar E sz F q) c (32 * p + o) s)) hx hb hr hlk hC hP hS d_MA_doTry_142 hi_139 (by unfold sTry; rw [if_neg (fun h8 => h8.elim (fun h7 => c_110 (by rw [hsk]; exact h7)) (fun h7 => by rw [c_118] at h7; exact absurd h7 (by decide))), ← hsk]; have h6 := (hw_139.pre hB.2.1).n0 (hB.2.2.2 c_110).1; rw [show 32 * p + (PT E (32 * p + o) j - 32 * p) + 1 = PT E (32 * p + o) (tNc ar (32 * p + o)) + 1 by rw [show (tNc ar (32 * p + o)) = j by omega]; omega] at h6; exact h6)
          · have c_127 : ¬ PT E (32 * p + o) j - 32 * p < sz p := fun h => c_127 ((q_lt (a := PT E (32 * p + o) j - 32 * p) (b := sz p) rfl rfl (by omega) (by omega)).mpr h)
            refine lv_aload hx hb d_MA_doTry_130 (lv_at hl 4 rfl) ?_
            exact e_e (post := fun e S1 => BlkP S S1 q p c (gnf s.1) e (sTry ar E (sB op ar E sz F q) c (32 * p + o) s)) hx hb hr hlk hC hP hS d_MA_doTry_132 hr6 (by exfalso; have h8 := hpt (tNc ar (32 * p + o)) (by rw [if_pos c_118]; omega); rw [show (tNc ar (32 * p + o)) = j by omega] at h8; omega)
    · have c_49 : ¬ (tNc ar (32 * p + o)) ≤ j := fun h => c_49 ((q_le (a := (tNc ar (32 * p + o))) (b := j) rfl rfl (by omega) (by omega)).mpr h)
      have hptj := hpt j (by omega)
      have hEj := (hTp.2.2 (PT E (32 * p + o) j - 32 * p) (by omega)).2.2.2
      rw [show 32 * p + (PT E (32 * p + o) j - 32 * p) = PT E (32 * p + o) j by omega] at hEj
      refine lv_iload hx hb d_MA_doTry_52 (lv_at hl 6 rfl) ?_
      refine lv_aload_n hx hb d_MA_doTry_54 rfl (lv_at hl 3 rfl) ?_
      refine r_getN hx hb hC hP i_TE (11 + 4 * p) (by omega) (sh_T G _ hp) rfl 3 (by decide) k_MA_117 rfl d_MA_doTry_55 ?_
      rw [show X (11 + 4 * p) 3 = nI (sz p) from hTp.1]
      refine lv_icmp_ge (tgt := 105) hx hb d_MA_doTry_58 (by decide) (fun c_58 => ?_) (fun c_58 => ?_)
      · have c_58 : sz p ≤ PT E (32 * p + o) j - 32 * p := (q_le (a := sz p) (b := PT E (32 * p + o) j - 32 * p) rfl rfl (by omega) (by omega)).mp c_58
        refine lv_aload hx hb d_MA_doTry_105 (lv_at hl 4 rfl) ?_
        refine r_enum hx hb hC hS 5 (by decide) l_MA_67 d_MA_doTry_107 ?_
        refine lv_acmp_eq (rx := some (gE G r.1)) (ry := some (gE G 5)) (tgt := 130) hx hb d_MA_doTry_110 (by decide) (fun c_110 => ?_) (fun c_110 => ?_)
        · have c_110 := gE_eq hC.2.2.1 hr6 (by decide) c_110
          refine lv_aload hx hb d_MA_doTry_130 (lv_at hl 4 rfl) ?_
          exact e_e (post := fun e S1 => BlkP S S1 q p c (gnf s.1) e (sTry ar E (sB op ar E sz F q) c (32 * p + o) s)) hx hb hr hlk hC hP hS d_MA_doTry_132 hr6 (by exfalso; omega)
        · have c_110 := gE_ne c_110
          refine lv_aload_n hx hb d_MA_doTry_113 rfl (lv_at hl 3 rfl) ?_
          refine lv_iload_n hx hb d_MA_doTry_114 rfl (lv_at hl 2 rfl) ?_
          refine r_i hC hS (r_runV (np := 1) (As := [.int (nI o)]) (rest := []) hx hb hml hC hP hS (by omega) (sh_T G _ hp) rfl (m_TE_hasLast l G X p o hp (by omega)) l_MA_190 im_TE_hasLast se_TE_hasLast in_TE c_TE_hasLast_in (by decide +kernel) ⟨by simp only [rmF]; omega, by simp only [rmF]; omega⟩ rfl hl.1 (Nat.le_of_ble_eq_true rfl) d_MA_doTry_115 ⟨Nat.le_refl _, Nat.le_refl _⟩) (fun r_115 S_115 H locs hw hP hS => ?_)
          obtain ⟨rfl, hSe⟩ := hw
          rw [hSe] at hP
          rw [show tLast X p o = (tLa ar (32 * p + o)) from by unfold tLast tLa; rw [(hTp.2.2 o ho).1, (hTp.2.2 o ho).2.1, decide_eq_true h9, lkOK_la hlk9]; rfl]
          refine lv_if_eq (tgt := 130) hx hb d_MA_doTry_118 (by decide) (fun c_118 => ?_) (fun c_118 => ?_)
          · have c_118 := b2i_f c_118
            refine lv_aload hx hb d_MA_doTry_130 (lv_at hl 4 rfl) ?_
            exact e_e (post := fun e S1 => BlkP S S1 q p c (gnf s.1) e (sTry ar E (sB op ar E sz F q) c (32 * p + o) s)) hx hb hr hlk hC hP hS d_MA_doTry_132 hr6 (by exfalso; omega)
          · have c_118 := b2i_t c_118
            refine lv_iload hx hb d_MA_doTry_121 (lv_at hl 6 rfl) ?_
            refine lv_aload_n hx hb d_MA_doTry_123 rfl (lv_at hl 3 rfl) ?_
            refine r_getN hx hb hC hP i_TE (11 + 4 * p) (by omega) (sh_T G _ hp) rfl 3 (by decide) k_MA_117 rfl d_MA_doTry_124 ?_
            rw [show X (11 + 4 * p) 3 = nI (sz p) from hTp.1]
            refine lv_icmp_lt (tgt := 133) hx hb d_MA_doTry_127 (by decide) (fun c_127 => ?_) (fun c_127 => ?_)
            · have c_127 : PT E (32 * p + o) j - 32 * p < sz p := (q_lt (a := PT E (32 * p + o) j - 32 * p) (b := sz p) rfl rfl (by omega) (by omega)).mp c_127
              refine lv_aload_n hx hb d_MA_doTry_133 rfl (lv_at hl 0 rfl) ?_
              refine lv_iload_n hx hb d_MA_doTry_134 rfl (lv_at hl 1 rfl) ?_
              refine lv_iload hx hb d_MA_doTry_135 (lv_at hl 6 rfl) ?_
              refine lv_aload hx hb d_MA_doTry_137 (lv_at hl 4 rfl) ?_
              refine r_e (post := fun e S1 => BlkP X S1 q p c (gnf r.2.2.2.1) e (sLst (sB op ar E sz F q c (32 * p + (PT E (32 * p + o) j - 32 * p) + 1)) r)) hC hS (r_runV (np := 3) (As := [.int (nI q), .int (nI (PT E (32 * p + o) j - 32 * p)), .ref (gE G r.1)]) (rest := []) hx hb hml hC hP hS (by decide) rfl rfl (m_MA_doLast l G X op ar E sz F h q p c (PT E (32 * p + o) j - 32 * p) r hq hp (hB.aft hok.1 c_110) hr6 (by have h8 := hBl c_118; rw [show (tNc ar (32 * p + o)) = j by omega] at h8; exact h8)) l_MA_193 im_MA_doLast se_MA_doLast in_MA c_MA_doLast_in (by decide +kernel) ⟨by simp only [rmF]; omega, by simp only [rmF]; omega⟩ rfl hl.1 (Nat.le_of_ble_eq_true rfl) d_MA_doTry_139 ⟨Nat.le_refl _, Nat.le_refl _⟩) (fun i_139 S_139 H locs hi_139 hw hP hS => ?_)
              have hw_139 := hw
              exact e_e (post := fun e S1 => BlkP S S1 q p c (gnf s.1) e (sTry ar E (sB op ar E sz F q) c (32 * p + o) s)) hx hb hr hlk hC hP hS d_MA_doTry_142 hi_139 (by exfalso; omega)
            · have c_127 : ¬ PT E (32 * p + o) j - 32 * p < sz p := fun h => c_127 ((q_lt (a := PT E (32 * p + o) j - 32 * p) (b := sz p) rfl rfl (by omega) (by omega)).mpr h)
              refine lv_aload hx hb d_MA_doTry_130 (lv_at hl 4 rfl) ?_
              exact e_e (post := fun e S1 => BlkP S S1 q p c (gnf s.1) e (sTry ar E (sB op ar E sz F q) c (32 * p + o) s)) hx hb hr hlk hC hP hS d_MA_doTry_132 hr6 (by exfalso; omega)
      · have c_58 : ¬ sz p ≤ PT E (32 * p + o) j - 32 * p := fun h => c_58 ((q_le (a := sz p) (b := PT E (32 * p + o) j - 32 * p) rfl rfl (by omega) (by omega)).mpr h)
        refine lv_iload hx hb d_MA_doTry_61 (lv_at hl 5 rfl) ?_
        refine lv_if_eq (tgt := 88) hx hb d_MA_doTry_63 (by decide) (fun c_63 => ?_) (fun c_63 => ?_)
        · have c_63 := b2i_f c_63
          refine lv_aload_n hx hb d_MA_doTry_88 rfl (lv_at hl 3 rfl) ?_
          refine r_getN hx hb hC hP i_TE (11 + 4 * p) (by omega) (sh_T G _ hp) rfl 2 (by decide) k_MA_120 rfl d_MA_doTry_89 ?_
          refine lv_iload hx hb d_MA_doTry_92 (lv_at hl 6 rfl) ?_
          refine r_ild hx hb hC hP (14 + 4 * p) (by omega) (sh_T3 G _ hp) (PT E (32 * p + o) j - 32 * p) rfl (by omega) (by decide) d_MA_doTry_94 ?_
          rw [show X (14 + 4 * p) (PT E (32 * p + o) j - 32 * p) = nI (E (PT E (32 * p + o) j) - 32 * p) from (by have h8 := (hTp.2.2 (PT E (32 * p + o) j - 32 * p) (by omega)).2.2.1; rw [show 32 * p + (PT E (32 * p + o) j - 32 * p) = PT E (32 * p + o) j by omega] at h8; exact h8)]
          refine lv_iconst (v := 1) hx hb d_MA_doTry_95 (by decide) ?_
          refine lv_iadd hx hb d_MA_doTry_96 ?_
          rw [show (nI (E (PT E (32 * p + o) j) - 32 * p)) + 1 = nI (PT E (32 * p + o) (j + 1) - 32 * p) from (by rw [nI_1]; congr 1; show E (PT E (32 * p + o) j) - 32 * p + 1 = E (PT E (32 * p + o) j) + 1 - 32 * p; have h8 := (hTp.2.2 (PT E (32 * p + o) j - 32 * p) (by omega)).2.2.2; rw [show 32 * p + (PT E (32 * p + o) j - 32 * p) = PT E (32 * p + o) j by omega] at h8; omega)]
          refine lv_istore (lv' := [(6, .int (nI (PT E (32 * p + o) (j + 1) - 32 * p))), (0, .ref (gA G 1)), (1, .int (nI q)), (2, .int (nI o)), (3, .ref (gA G (11 + 4 * p))), (4, .ref (gE G r.1)), (5, .int (b2i sk)), (7, .int (nI j))]) hx hb d_MA_doTry_97 hl (by decide) rfl (fun ls hl => ?_)
          refine lv_iinc (v := nI (j + 1)) (lv' := [(7, .int (nI (j + 1))), (6, .int (nI (PT E (32 * p + o) (j + 1) - 32 * p))), (0, .ref (gA G 1)), (1, .int (nI q)), (2, .int (nI o)), (3, .ref (gA G (11 + 4 * p))), (4, .ref (gE G r.1)), (5, .int (b2i sk))]) hx hb d_MA_doTry_99 hl (k := 7) rfl (nI_1 _) (by decide) rfl (fun ls hl => ?_)
          refine lv_goto (tgt := 42) hx hb d_MA_doTry_102 (by decide) ?_
          exact ih (j + 1) X r sk (by omega) (by omega) hr6 hB hsf (fun h8 => by rw [c_63] at h8; exact absurd h8 (by decide)) ⟨by show 32 * p ≤ E (PT E (32 * p + o) j) + 1; omega, by show E (PT E (32 * p + o) j) + 1 ≤ 32 * p + sz p; omega⟩ _ _ _ hP hS (lv_sub hl [2, 3, 4, 5, 6, 7, 1, 0] rfl)
        · have c_63 := b2i_t c_63
          obtain ⟨hrr, hr4, hnone⟩ := hst c_63
          have hcar := (hB.2.2.2 (by omega)).2.2.2.2.2 hr4
          have hfk : isK (fKind X (X (27 + 2 * q) 3) (gnf r.2.2.2.1)) (X (13 + 4 * p) (PT E (32 * p + o) j - 32 * p)) = fkT ar E (32 * p + o) (sB op ar E sz F q c ((32 * p + o) + 1) s) j := by rw [hcar.1, fKind_id hB.2.2.1 hcar.2.1 hcar.2.2, (hTp.2.2 (PT E (32 * p + o) j - 32 * p) (by omega)).2.1, show 32 * p + (PT E (32 * p + o) j - 32 * p) = PT E (32 * p + o) j by omega, hrr]; rfl
          refine lv_aload_n hx hb d_MA_doTry_66 rfl (lv_at hl 0 rfl) ?_
          refine lv_iload_n hx hb d_MA_doTry_67 rfl (lv_at hl 1 rfl) ?_
          refine lv_iload hx hb d_MA_doTry_68 (lv_at hl 6 rfl) ?_
          refine r_i hC hS (r_runV (np := 2) (As := [.int (nI q), .int (nI (PT E (32 * p + o) j - 32 * p))]) (rest := []) hx hb hml hC hP hS (by decide) rfl rfl (m_MA_catches l G X (gnf r.2.2.2.1) q p (PT E (32 * p + o) j - 32 * p) hB.2.2.1.2.2.2.2.2.2.2.1 hq hp (by omega) hB.2.2.1.2.2.2.2.2.2.1 ((hB.2.1 _ _ (by omega)).trans hok.2.2.1.1)) l_MA_183 im_MA_catches se_MA_catches in_MA c_MA_catches_in (by decide +kernel) ⟨by simp only [rmF]; omega, by simp only [rmF]; omega⟩ rfl hl.1 (Nat.le_of_ble_eq_true rfl) d_MA_doTry_70 ⟨Nat.le_refl _, Nat.le_refl _⟩) (fun r_70 S_70 H locs hw hP hS => ?_)
          obtain ⟨rfl, hSe⟩ := hw
          rw [hSe] at hP
          rw [show isK (fKind X (X (27 + 2 * q) 3) (gnf r.2.2.2.1)) (X (13 + 4 * p) (PT E (32 * p + o) j - 32 * p)) = fkT ar E (32 * p + o) (sB op ar E sz F q c ((32 * p + o) + 1) s) j from hfk]
          refine lv_if_eq (tgt := 88) hx hb d_MA_doTry_73 (by decide) (fun c_73 => ?_) (fun c_73 => ?_)
          · have c_73 := b2i_f c_73
            refine lv_aload_n hx hb d_MA_doTry_88 rfl (lv_at hl 3 rfl) ?_
            refine r_getN hx hb hC hP i_TE (11 + 4 * p) (by omega) (sh_T G _ hp) rfl 2 (by decide) k_MA_120 rfl d_MA_doTry_89 ?_
            refine lv_iload hx hb d_MA_doTry_92 (lv_at hl 6 rfl) ?_
            refine r_ild hx hb hC hP (14 + 4 * p) (by omega) (sh_T3 G _ hp) (PT E (32 * p + o) j - 32 * p) rfl (by omega) (by decide) d_MA_doTry_94 ?_
            rw [show X (14 + 4 * p) (PT E (32 * p + o) j - 32 * p) = nI (E (PT E (32 * p + o) j) - 32 * p) from (by have h8 := (hTp.2.2 (PT E (32 * p + o) j - 32 * p) (by omega)).2.2.1; rw [show 32 * p + (PT E (32 * p + o) j - 32 * p) = PT E (32 * p + o) j by omega] at h8; exact h8)]
            refine lv_iconst (v := 1) hx hb d_MA_doTry_95 (by decide) ?_
            refine lv_iadd hx hb d_MA_doTry_96 ?_
            rw [show (nI (E (PT E (32 * p + o) j) - 32 * p)) + 1 = nI (PT E (32 * p + o) (j + 1) - 32 * p) from (by rw [nI_1]; congr 1; show E (PT E (32 * p + o) j) - 32 * p + 1 = E (PT E (32 * p + o) j) + 1 - 32 * p; have h8 := (hTp.2.2 (PT E (32 * p + o) j - 32 * p) (by omega)).2.2.2; rw [show 32 * p + (PT E (32 * p + o) j - 32 * p) = PT E (32 * p + o) j by omega] at h8; omega)]
            refine lv_istore (lv' := [(6, .int (nI (PT E (32 * p + o) (j + 1) - 32 * p))), (0, .ref (gA G 1)), (1, .int (nI q)), (2, .int (nI o)), (3, .ref (gA G (11 + 4 * p))), (4, .ref (gE G r.1)), (5, .int (b2i sk)), (7, .int (nI j))]) hx hb d_MA_doTry_97 hl (by decide) rfl (fun ls hl => ?_)
            refine lv_iinc (v := nI (j + 1)) (lv' := [(7, .int (nI (j + 1))), (6, .int (nI (PT E (32 * p + o) (j + 1) - 32 * p))), (0, .ref (gA G 1)), (1, .int (nI q)), (2, .int (nI o)), (3, .ref (gA G (11 + 4 * p))), (4, .ref (gE G r.1)), (5, .int (b2i sk))]) hx hb d_MA_doTry_99 hl (k := 7) rfl (nI_1 _) (by decide) rfl (fun ls hl => ?_)
            refine lv_goto (tgt := 42) hx hb d_MA_doTry_102 (by decide) ?_
            exact ih (j + 1) X r sk (by omega) (by omega) hr6 hB hsf (fun h8 => ⟨hrr, hr4, fun j2 hj2 => (Nat.lt_or_ge j2 j).elim (hnone j2) (fun h7 => by rw [show j2 = j by omega]; exact c_73)⟩) ⟨by show 32 * p ≤ E (PT E (32 * p + o) j) + 1; omega, by show E (PT E (32 * p + o) j) + 1 ≤ 32 * p + sz p; omega⟩ _ _ _ hP hS (lv_sub hl [2, 3, 4, 5, 6, 7, 1, 0] rfl)
          · have c_73 := b2i_t c_73
            refine lv_iconst (v := 0) hx hb d_MA_doTry_76 (by decide) ?_
            refine lv_istore (lv' := [(5, .int 0), (0, .ref (gA G 1)), (1, .int (nI q)), (2, .int (nI o)), (3, .ref (gA G (11 + 4 * p))), (4, .ref (gE G r.1)), (6, .int (nI (PT E (32 * p + o) j - 32 * p))), (7, .int (nI j))]) hx hb d_MA_doTry_77 hl (by decide) rfl (fun ls hl => ?_)
            refine lv_aload_n hx hb d_MA_doTry_79 rfl (lv_at hl 1 rfl) ?_
            refine lv_iload_n hx hb d_MA_doTry_80 rfl (lv_at hl 2 rfl) ?_
            refine lv_iload hx hb d_MA_doTry_81 (lv_at hl 6 rfl) ?_
            refine r_e (post := fun e S1 => BlkP X S1 q p c (gnf r.2.2.2.1) e (sB op ar E sz F q r.2.2.1 (32 * p + (PT E (32 * p + o) j - 32 * p) + 1) r.2.2.2)) hC hS (r_runV (np := 2) (As := [.int (nI q), .int (nI (PT E (32 * p + o) j - 32 * p))]) (rest := []) hx hb hml hC hP hS (by decide) rfl rfl (m_MA_doCatch l G X op ar E sz F h q p c (PT E (32 * p + o) j - 32 * p) r.2.2.2 hq hp (hB.ok hok.1 (by omega)) (hBc j (by omega)) r.2.2.1 hcar.2.2 hcar.1) l_MA_187 im_MA_doCatch se_MA_doCatch in_MA c_MA_doCatch_in (by decide +kernel) ⟨by simp only [rmF]; omega, by simp only [rmF]; omega⟩ rfl hl.1 (Nat.le_of_ble_eq_true rfl) d_MA_doTry_83 ⟨Nat.le_refl _, Nat.le_refl _⟩) (fun i_83 S_83 H locs hi_83 hw hP hS => ?_)
            have hw_83 := hw
            rw [show 32 * p + (PT E (32 * p + o) j - 32 * p) + 1 = PT E (32 * p + o) j + 1 by omega] at hw_83
            refine lv_astore (lv' := [(4, .ref (gE G i_83)), (5, .int 0), (0, .ref (gA G 1)), (1, .int (nI q)), (2, .int (nI o)), (3, .ref (gA G (11 + 4 * p))), (6, .int (nI (PT E (32 * p + o) j - 32 * p))), (7, .int (nI j))]) hx hb d_MA_doTry_86 hl (by decide) rfl (fun ls hl => ?_)
            refine lv_aload_n hx hb d_MA_doTry_88 rfl (lv_at hl 5 rfl) ?_
            refine r_getN hx hb hC hP i_TE (11 + 4 * p) (by omega) (sh_T G _ hp) rfl 2 (by decide) k_MA_120 rfl d_MA_doTry_89 ?_
            refine lv_iload hx hb d_MA_doTry_92 (lv_at hl 6 rfl) ?_
            refine r_ild hx hb hC hP (14 + 4 * p) (by omega) (sh_T3 G _ hp) (PT E (32 * p + o) j - 32 * p) rfl (by omega) (by decide) d_MA_doTry_94 ?_
            rw [show S_83 (14 + 4 * p) (PT E (32 * p + o) j - 32 * p) = nI (E (PT E (32 * p + o) j) - 32 * p) from (by have h8 := ((hw_83.2.1 _ _ (by omega)).trans (hTp.2.2 (PT E (32 * p + o) j - 32 * p) (by omega)).2.2.1); rw [show 32 * p + (PT E (32 * p + o) j - 32 * p) = PT E (32 * p + o) j by omega] at h8; exact h8)]
            refine lv_iconst (v := 1) hx hb d_MA_doTry_95 (by decide) ?_
            refine lv_iadd hx hb d_MA_doTry_96 ?_
            rw [show (nI (E (PT E (32 * p + o) j) - 32 * p)) + 1 = nI (PT E (32 * p + o) (j + 1) - 32 * p) from (by rw [nI_1]; congr 1; show E (PT E (32 * p + o) j) - 32 * p + 1 = E (PT E (32 * p + o) j) + 1 - 32 * p; have h8 := (hTp.2.2 (PT E (32 * p + o) j - 32 * p) (by omega)).2.2.2; rw [show 32 * p + (PT E (32 * p + o) j - 32 * p) = PT E (32 * p + o) j by omega] at h8; omega)]
            refine lv_istore (lv' := [(6, .int (nI (PT E (32 * p + o) (j + 1) - 32 * p))), (4, .ref (gE G i_83)), (5, .int 0), (0, .ref (gA G 1)), (1, .int (nI q)), (2, .int (nI o)), (3, .ref (gA G (11 + 4 * p))), (7, .int (nI j))]) hx hb d_MA_doTry_97 hl (by decide) rfl (fun ls hl => ?_)
            refine lv_iinc (v := nI (j + 1)) (lv' := [(7, .int (nI (j + 1))), (6, .int (nI (PT E (32 * p + o) (j + 1) - 32 * p))), (4, .ref (gE G i_83)), (5, .int 0), (0, .ref (gA G 1)), (1, .int (nI q)), (2, .int (nI o)), (3, .ref (gA G (11 + 4 * p)))]) hx hb d_MA_doTry_99 hl (k := 7) rfl (nI_1 _) (by decide) rfl (fun ls hl => ?_)
            refine lv_goto (tgt := 42) hx hb d_MA_doTry_102 (by decide) ?_
            rw [hw_83.1] at hl
            exact ih (j + 1) S_83 (sB op ar E sz F q r.2.2.1 (PT E (32 * p + o) j + 1) r.2.2.2) false (by omega) (by omega) (by rw [← hw_83.1]; exact hi_83) (by have h8 := (hw_83.pre hB.2.1).n0 (hB.2.2.2 (by omega)).1; rw [hw_83.1] at h8; exact h8) (fun _ => by rw [sCat_some (hrr ▸ hr4) (by omega) c_73 hnone, hrr]) (fun h8 => absurd h8 (by decide)) ⟨by show 32 * p ≤ E (PT E (32 * p + o) j) + 1; omega, by show E (PT E (32 * p + o) j) + 1 ≤ 32 * p + sz p; omega⟩ _ _ _ hP hS (lv_sub hl [4, 5, 6, 7, 2, 3, 1, 0] rfl)

set_option maxHeartbeats 4000000 in
set_option maxRecDepth 100000 in
theorem m_MA_doTry (l : Launch) (G : WG) (S : SS) (op ar : Nat → Int32) (E sz : Nat → Nat) (F h q p c o : Nat) (s : SG) (hq : q < 6) (hp : p < 4) (hok : OKs S op ar E sz q p c s) (ho : o < sz p) (h9 : op (32 * p + o) = 9) (hlk9 : lkOK (ar (32 * p + o))) (hpt : ∀ j, j < (tNc ar (32 * p + o)) + (if (tLa ar (32 * p + o)) = true then 1 else 0) → 32 * p ≤ PT E (32 * p + o) j ∧ PT E (32 * p + o) j < 32 * p + sz p) (hB0 : DoB l G op ar E sz F h q p o) (hBc : ∀ j, j < (tNc ar (32 * p + o)) → DoB l G op ar E sz F h q p (PT E (32 * p + o) j - 32 * p)) (hBl : (tLa ar (32 * p + o)) = true → DoB l G op ar E sz F h q p (PT E (32 * p + o) (tNc ar (32 * p + o)) - 32 * p)) : Ce l y_MA_doTry b_MA_doTry 8 (h + 3) G [.ref (gA G 1), .int (nI q), .int (nI o)] S (fun e S1 => BlkP S S1 q p c (gnf s.1) e (sTry ar E (sB op ar E sz F q) c (32 * p + o) s)) := by
  have hpr := hok.2.2.1.1
  have hz32 := (hok.1 p hp).2.1
  have hEo := ((hok.1 p hp).2.2 o ho).2.2.2
  refine mk l (by decide +kernel) (Nat.le_of_ble_eq_true rfl) ?_
  intro pp_ ee_ ss_ mm_ be_ me_ co_ ls hx hb hr hlk hml hC hP hS hl
  have hl : lv_has ls 8 [(0, .ref (gA G 1)), (1, .int (nI q)), (2, .int (nI o))] := hl
  refine lv_aload_n hx hb d_MA_doTry_0 rfl (lv_at hl 0 rfl) ?_
  refine lv_iload_n hx hb d_MA_doTry_1 rfl (lv_at hl 1 rfl) ?_
  refine r_r (post := fun i S1 => i = 11 + 4 * p ∧ S1 = S) hC hS (r_runV (np := 1) (As := [.int (nI q)]) (rest := []) hx hb hml hC hP hS (by decide) rfl rfl (m_MA_textOf l G S q p (by omega) hp hpr) l_MA_113 im_MA_textOf se_MA_textOf in_MA c_MA_textOf_in (by decide +kernel) ⟨by simp only [rmF]; omega, by simp only [rmF]; omega⟩ rfl hl.1 (Nat.le_of_ble_eq_true rfl) d_MA_doTry_2 ⟨Nat.le_refl _, Nat.le_refl _⟩) (fun i_2 S_2 H locs hw hP hS => ?_)
  obtain ⟨rfl, hSe⟩ := hw
  rw [hSe] at hP
  refine lv_astore_n (lv' := [(3, .ref (gA G (11 + 4 * p))), (0, .ref (gA G 1)), (1, .int (nI q)), (2, .int (nI o))]) hx hb d_MA_doTry_5 rfl hl (by decide) rfl (fun ls hl => ?_)
  refine lv_aload_n hx hb d_MA_doTry_6 rfl (lv_at hl 1 rfl) ?_
  refine lv_iload_n hx hb d_MA_doTry_7 rfl (lv_at hl 2 rfl) ?_
  refine lv_iload_n hx hb d_MA_doTry_8 rfl (lv_at hl 3 rfl) ?_
  refine r_e (post := fun e S1 => BlkP S S1 q p c (gnf s.1) e (sB op ar E sz F q c (32 * p + o + 1) s)) hC hS (r_runV (np := 2) (As := [.int (nI q), .int (nI o)]) (rest := []) hx hb hml hC hP hS (by decide) rfl rfl (hB0 S c s hok) l_MA_82 im_MA_doBlock se_MA_doBlock in_MA c_MA_doBlock_in (by decide +kernel) ⟨by simp only [rmF]; omega, by simp only [rmF]; omega⟩ rfl hl.1 (Nat.le_of_ble_eq_true rfl) d_MA_doTry_9 ⟨Nat.le_refl _, Nat.le_refl _⟩) (fun i_9 S_9 H locs hi_9 hw hP hS => ?_)
  have hw_9 := hw
  refine lv_astore (lv' := [(4, .ref (gE G i_9)), (3, .ref (gA G (11 + 4 * p))), (0, .ref (gA G 1)), (1, .int (nI q)), (2, .int (nI o))]) hx hb d_MA_doTry_12 hl (by decide) rfl (fun ls hl => ?_)
  refine lv_aload hx hb d_MA_doTry_14 (lv_at hl 0 rfl) ?_
  refine r_enum hx hb hC hS 4 (by decide) l_MA_73 d_MA_doTry_16 ?_
  refine lv_acmp_ne (rx := some (gE G i_9)) (ry := some (gE G 4)) (tgt := 26) hx hb d_MA_doTry_19 (by decide) (fun c_19 => ?_) (fun c_19 => ?_)
  · have c_19 := gE_ne c_19
    refine lv_iconst (v := 0) hx hb d_MA_doTry_26 (by decide) ?_
    refine lv_istore (lv' := [(5, .int 0), (4, .ref (gE G i_9)), (3, .ref (gA G (11 + 4 * p))), (0, .ref (gA G 1)), (1, .int (nI q)), (2, .int (nI o))]) hx hb d_MA_doTry_27 hl (by decide) rfl (fun ls hl => ?_)
    refine lv_aload_n hx hb d_MA_doTry_29 rfl (lv_at hl 2 rfl) ?_
    refine r_getN hx hb hC hP i_TE (11 + 4 * p) (by omega) (sh_T G _ hp) rfl 2 (by decide) k_MA_120 rfl d_MA_doTry_30 ?_
    refine lv_iload_n hx hb d_MA_doTry_33 rfl (lv_at hl 5 rfl) ?_
    refine r_ild hx hb hC hP (14 + 4 * p) (by omega) (sh_T3 G _ hp) o rfl (by omega) (by decide) d_MA_doTry_34 ?_
    rw [show S_9 (14 + 4 * p) o = nI (E (32 * p + o) - 32 * p) from ((hw_9.2.1 _ _ (by omega)).trans ((hok.1 p hp).2.2 o ho).2.2.1)]
    refine lv_iconst (v := 1) hx hb d_MA_doTry_35 (by decide) ?_
    refine lv_iadd hx hb d_MA_doTry_36 ?_
    rw [show (nI (E (32 * p + o) - 32 * p)) + 1 = nI (PT E (32 * p + o) 0 - 32 * p) from (by rw [nI_1]; congr 1; show E (32 * p + o) - 32 * p + 1 = E (32 * p + o) + 1 - 32 * p; omega)]
    refine lv_istore (lv' := [(6, .int (nI (PT E (32 * p + o) 0 - 32 * p))), (5, .int 0), (4, .ref (gE G i_9)), (3, .ref (gA G (11 + 4 * p))), (0, .ref (gA G 1)), (1, .int (nI q)), (2, .int (nI o))]) hx hb d_MA_doTry_37 hl (by decide) rfl (fun ls hl => ?_)
    refine lv_iconst (v := 0) hx hb d_MA_doTry_39 (by decide) ?_
    refine lv_istore (lv' := [(7, .int 0), (6, .int (nI (PT E (32 * p + o) 0 - 32 * p))), (5, .int 0), (4, .ref (gE G i_9)), (3, .ref (gA G (11 + 4 * p))), (0, .ref (gA G 1)), (1, .int (nI q)), (2, .int (nI o))]) hx hb d_MA_doTry_40 hl (by decide) rfl (fun ls hl => ?_)
    have hw_9 : BlkP S S_9 q p c (gnf s.1) i_9 (sB op ar E sz F q c ((32 * p + o) + 1) s) := hw_9
    rw [hw_9.1] at hl
    exact m_MA_doTry_loop l G S op ar E sz F h q p c o s hq hp hok ho h9 hlk9 hpt hB0 hBc hBl hx hb hr hlk hml hC ((tNc ar (32 * p + o)) + 1) 0 S_9 (sB op ar E sz F q c ((32 * p + o) + 1) s) false (Nat.zero_le _) (by omega) (by rw [← hw_9.1]; exact hi_9) (by have h8 := hw_9; rw [hw_9.1] at h8; exact h8) (fun _ => (sCat_no4 (by rw [← hw_9.1]; exact c_19)).symm) (fun h8 => absurd h8 (by decide)) ⟨by show 32 * p ≤ E (32 * p + o) + 1; omega, by show E (32 * p + o) + 1 ≤ 32 * p + sz p; omega⟩ _ _ _ hP hS (lv_sub hl [5, 6, 7, 4, 3, 2, 1, 0] rfl)
  · have c_19 := gE_eq hC.2.2.1 hi_9 (by decide) c_19
    refine lv_iconst (v := 1) hx hb d_MA_doTry_22 (by decide) ?_
    refine lv_goto (tgt := 27) hx hb d_MA_doTry_23 (by decide) ?_
    refine lv_istore (lv' := [(5, .int 1), (4, .ref (gE G i_9)), (3, .ref (gA G (11 + 4 * p))), (0, .ref (gA G 1)), (1, .int (nI q)), (2, .int (nI o))]) hx hb d_MA_doTry_27 hl (by decide) rfl (fun ls hl => ?_)
    refine lv_aload_n hx hb d_MA_doTry_29 rfl (lv_at hl 2 rfl) ?_
    refine r_getN hx hb hC hP i_TE (11 + 4 * p) (by omega) (sh_T G _ hp) rfl 2 (by decide) k_MA_120 rfl d_MA_doTry_30 ?_
    refine lv_iload_n hx hb d_MA_doTry_33 rfl (lv_at hl 5 rfl) ?_
    refine r_ild hx hb hC hP (14 + 4 * p) (by omega) (sh_T3 G _ hp) o rfl (by omega) (by decide) d_MA_doTry_34 ?_
    rw [show S_9 (14 + 4 * p) o = nI (E (32 * p + o) - 32 * p) from ((hw_9.2.1 _ _ (by omega)).trans ((hok.1 p hp).2.2 o ho).2.2.1)]
    refine lv_iconst (v := 1) hx hb d_MA_doTry_35 (by decide) ?_
    refine lv_iadd hx hb d_MA_doTry_36 ?_
    rw [show (nI (E (32 * p + o) - 32 * p)) + 1 = nI (PT E (32 * p + o) 0 - 32 * p) from (by rw [nI_1]; congr 1; show E (32 * p + o) - 32 * p + 1 = E (32 * p + o) + 1 - 32 * p; omega)]
    refine lv_istore (lv' := [(6, .int (nI (PT E (32 * p + o) 0 - 32 * p))), (5, .int 1), (4, .ref (gE G i_9)), (3, .ref (gA G (11 + 4 * p))), (0, .ref (gA G 1)), (1, .int (nI q)), (2, .int (nI o))]) hx hb d_MA_doTry_37 hl (by decide) rfl (fun ls hl => ?_)
    refine lv_iconst (v := 0) hx hb d_MA_doTry_39 (by decide) ?_
    refine lv_istore (lv' := [(7, .int 0), (6, .int (nI (PT E (32 * p + o) 0 - 32 * p))), (5, .int 1), (4, .ref (gE G i_9)), (3, .ref (gA G (11 + 4 * p))), (0, .ref (gA G 1)), (1, .int (nI q)), (2, .int (nI o))]) hx hb d_MA_doTry_40 hl (by decide) rfl (fun ls hl => ?_)
    have hw_9 : BlkP S S_9 q p c (gnf s.1) i_9 (sB op ar E sz F q c ((32 * p + o) + 1) s) := hw_9
    rw [hw_9.1] at hl
    exact m_MA_doTry_loop l G S op ar E sz F h q p c o s hq hp hok ho h9 hlk9 hpt hB0 hBc hBl hx hb hr hlk hml hC ((tNc ar (32 * p + o)) + 1) 0 S_9 (sB op ar E sz F q c ((32 * p + o) + 1) s) true (Nat.zero_le _) (by omega) (by rw [← hw_9.1]; exact hi_9) (by have h8 := hw_9; rw [hw_9.1] at h8; exact h8) (fun h8 => absurd h8 (by decide)) (fun _ => ⟨rfl, by rw [← hw_9.1]; exact c_19, fun j2 hj2 => absurd hj2 (by omega)⟩) ⟨by show 32 * p ≤ E (32 * p + o) + 1; omega, by show E (32 * p + o) + 1 ≤ 32 * p + sz p; omega⟩ _ _ _ hP hS (lv_sub hl [5, 6, 7, 4, 3, 2, 1, 0] rfl)

