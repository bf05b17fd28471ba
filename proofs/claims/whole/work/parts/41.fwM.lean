/-! reference: firstWrong is the automaton: written by wip/gen/p41.py -/
theorem as_bad {st : List Fm} {lk o a : Int32} {i : Nat} (h : lk = 0) (h18 : ¬ o = 18) (hb : auBad st o = true) : auStep st lk o a i = none := by
  cases st with
  | nil => rfl
  | cons f r => simp only [auStep]; rw [if_pos h, if_neg h18, if_pos hb]
theorem as_due0 {st : List Fm} {lk o a : Int32} {i : Nat} (hl : ¬ lk = 0) (ho : ¬ o = lkDue lk) : auStep st lk o a i = none := by
  cases st with
  | nil => rfl
  | cons f r => simp only [auStep]; rw [if_neg hl, if_neg ho]
theorem as_due {f : Fm} {r : List Fm} {lk o a : Int32} {i : Nat} (hl : ¬ lk = 0) (ho : o = lkDue lk) : auStep (f :: r) lk o a i = some ((o, if o = 16 then lk - 1 else 0, nI i) :: f :: r, 0) := by
  simp only [auStep]; rw [if_neg hl, if_pos ho]
theorem as_end {f : Fm} {r : List Fm} {lk o a : Int32} {i : Nat} (hl : lk = 0) (ho : o = 18) : auStep (f :: r) lk o a i = some (r, if f.1 = 9 ∨ f.1 = 16 then f.2.1 else 0) := by
  simp only [auStep]; rw [if_pos hl, if_pos ho]
theorem as_push {f : Fm} {r : List Fm} {lk o a : Int32} {i : Nat} (hl : lk = 0) (h18 : ¬ o = 18) (hb : auBad (f :: r) o = false) (ho : opB o = true) : auStep (f :: r) lk o a i = some ((o, if o = 9 then a else 0, nI i) :: f :: r, 0) := by
  simp only [auStep]; rw [if_pos hl, if_neg h18, if_neg (by rw [hb]; decide), if_pos ho]
theorem as_on {f : Fm} {r : List Fm} {lk o a : Int32} {i : Nat} (hl : lk = 0) (h18 : ¬ o = 18) (hb : auBad (f :: r) o = false) (ho : opB o = false) : auStep (f :: r) lk o a i = some (f :: r, 0) := by
  simp only [auStep]; rw [if_pos hl, if_neg h18, if_neg (by rw [hb]; decide), if_neg (by rw [ho]; decide)]
def fwM (S : SS) (p n : Nat) : Int32 := wN (auR (fun j => S 45 (32 * p + j)) (fun j => S 46 (32 * p + j)) n 0 [(20, 0, -1)] 0 (fun _ => 0)).1
set_option maxHeartbeats 4000000 in
set_option maxRecDepth 100000 in
theorem m_MO_firstWrong_loop (l : Launch) (G : WG) (S : SS) (p n : Nat) (hp : p < 4) (hn : n ≤ 32) (hsz : S 47 p = nI n) (htok : ∀ j, j < n → S 45 (32 * p + j) = 9 → lkOK (S 46 (32 * p + j))) {pp_ : Program} {ee_ : Env} {ss_ : State} {mm_ : MethodId} {be_ : List Frame} {me_ : Method} {co_ : Code} (hx : pp_.tables.exec = Jvm.exec) (hb : co_.code = b_MO_firstWrong) (hr : me_.sig.returnType = (some (.int))) (hlk : me_.locks = false) (hml : co_.maxLocals = 8) (hC : CC G "EndingsLabModel" ss_ mm_ ([.ref (gA G 44), .int (nI p)] : List Value).toArray (AA G)) :
    ∀ (f : Nat) (i : Nat) (X : SS) (st : List Fm) (lk du le : Int32), i ≤ n → n < i + f → du = lkDue lk → (¬ lk = 0 → le = lk) → RepS X st → X 44 8 = nI st.length → st.length ≤ 6 → KpM X S → lkOK lk → (¬ lk = 0 → st.length < 6) → (st = [] → lk = 0) → bk st → (∃ E, wN (auR (fun j => S 45 (32 * p + j)) (fun j => S 46 (32 * p + j)) (n - i) i st lk E).1 = fwM S p n) →  ∀ (H : Heap) (locs : List Loc) (ls : Array Slot), va_P (gD G) clsL (wl (gA G) 57 (fS G X)) H → va_S (AA G) ss_.heap H locs → lv_has ls 8 [(0, .ref (gA G 44)), (1, .int (nI p)), (2, .int du), (3, .int le), (4, .int (nI i))] → W pp_ l ee_ (rmF 1) ss_ mm_ ([.ref (gA G 44), .int (nI p)] : List Value).toArray be_ me_ co_ H locs 0 0 (MQ be_ (va_Qi (fun x S1 => x = fwM S p n ∧ KpM S1 S) (WD G) (AA G)) ([.ref (gA G 44), .int (nI p)] : List Value).toArray ss_ 0 0 (AA G)) (F0 mm_ 19 ls []) := by
  intro f
  induction f with
  | zero =>
    intro i X st lk du le hi hf hdu hle hR hD hL hK hlok hl6 hl0 hbk hA H locs ls hP hS hl
    exact absurd hf (by omega)
  | succ f ih =>
    intro i X st lk du le hi hf hdu hle hR hD hL hK hlok hl6 hl0 hbk hA H locs ls hP hS hl
    refine lv_iload hx hb d_MO_firstWrong_19 (lv_at hl 4 rfl) ?_
    refine lv_aload_n hx hb d_MO_firstWrong_21 rfl (lv_at hl 0 rfl) ?_
    refine r_get hx hb hC hP i_MO (44) (by decide) rfl rfl 2 (by decide) l_MO_16 rfl d_MO_firstWrong_22 ?_
    refine lv_iload_n hx hb d_MO_firstWrong_25 rfl (lv_at hl 1 rfl) ?_
    refine r_ild hx hb hC hP (47) (by decide) rfl p rfl (by omega) (by decide) d_MO_firstWrong_26 ?_
    rw [show X 47 p = nI n from ((hK 47 _ (by omega)).trans hsz)]
    refine lv_icmp_ge (tgt := 304) hx hb d_MO_firstWrong_27 (by decide) (fun c_27 => ?_) (fun c_27 => ?_)
    · have c_27 : n ≤ i := (q_le (a := n) (b := i) rfl rfl (by omega) (by omega)).mp c_27
      refine lv_aload_n hx hb d_MO_firstWrong_304 rfl (lv_at hl 0 rfl) ?_
      refine r_get hx hb hC hP i_MO (44) (by decide) rfl rfl 8 (by decide) l_MO_58 rfl d_MO_firstWrong_305 ?_
      rw [show X 44 8 = nI st.length from hD]
      refine lv_if_ne (tgt := 319) hx hb d_MO_firstWrong_308 (by decide) (fun c_308 => ?_) (fun c_308 => ?_)
      · have c_308 : ¬ st.length = 0 := fun h => c_308 ((q_eq (a := st.length) (b := 0) rfl rfl (by omega) (by omega)).mpr h)
        refine lv_aload_n hx hb d_MO_firstWrong_319 rfl (lv_at hl 0 rfl) ?_
        refine r_get hx hb hC hP i_MO (44) (by decide) rfl rfl 2 (by decide) l_MO_16 rfl d_MO_firstWrong_320 ?_
        refine lv_iload_n hx hb d_MO_firstWrong_323 rfl (lv_at hl 1 rfl) ?_
        refine r_ild hx hb hC hP (47) (by decide) rfl p rfl (by omega) (by decide) d_MO_firstWrong_324 ?_
        rw [show X 47 p = nI n from ((hK 47 _ (by omega)).trans hsz)]
        exact e_i hx hb hr hlk hC hP hS d_MO_firstWrong_325 ⟨by obtain ⟨E, hA⟩ := hA; rw [show n - i = 0 by omega] at hA; rw [← hA]; cases st with | nil => exact absurd rfl c_308 | cons fr r => (show nI n = nI i; rw [show n = i by omega]), hK⟩
      · have c_308 : st.length = 0 := (q_eq (a := st.length) (b := 0) rfl rfl (by omega) (by omega)).mp c_308
        refine lv_iload_n hx hb d_MO_firstWrong_311 rfl (lv_at hl 2 rfl) ?_
        refine lv_if_ne (tgt := 319) hx hb d_MO_firstWrong_312 (by decide) (fun c_312 => ?_) (fun c_312 => ?_)
        · refine lv_aload_n hx hb d_MO_firstWrong_319 rfl (lv_at hl 0 rfl) ?_
          refine r_get hx hb hC hP i_MO (44) (by decide) rfl rfl 2 (by decide) l_MO_16 rfl d_MO_firstWrong_320 ?_
          refine lv_iload_n hx hb d_MO_firstWrong_323 rfl (lv_at hl 1 rfl) ?_
          refine r_ild hx hb hC hP (47) (by decide) rfl p rfl (by omega) (by decide) d_MO_firstWrong_324 ?_
          rw [show X 47 p = nI n from ((hK 47 _ (by omega)).trans hsz)]
          exact e_i hx hb hr hlk hC hP hS d_MO_firstWrong_325 ⟨by exfalso; obtain rfl : st = [] := List.eq_nil_of_length_eq_zero c_308; exact c_312 (hdu.trans (lkDue_0.mpr (hl0 rfl))), hK⟩
        · refine lv_iconst (v := (-1)) hx hb d_MO_firstWrong_315 (by decide) ?_
          refine lv_goto (tgt := 325) hx hb d_MO_firstWrong_316 (by decide) ?_
          exact e_i hx hb hr hlk hC hP hS d_MO_firstWrong_325 ⟨by obtain ⟨E, hA⟩ := hA; obtain rfl : st = [] := List.eq_nil_of_length_eq_zero c_308; rw [show n - i = 0 by omega] at hA; exact hA, hK⟩
    · have c_27 : ¬ n ≤ i := fun h => c_27 ((q_le (a := n) (b := i) rfl rfl (by omega) (by omega)).mpr h)
      obtain ⟨o, ho⟩ : ∃ o, o = S 45 (32 * p + i) := ⟨_, rfl⟩
      obtain ⟨a, ha⟩ : ∃ a, a = S 46 (32 * p + i) := ⟨_, rfl⟩
      obtain ⟨E, hA⟩ := hA
      have hA2 : wN (match auStep st lk o a i with | none => (some i, E) | some q => auR (fun j => S 45 (32 * p + j)) (fun j => S 46 (32 * p + j)) (n - (i + 1)) (i + 1) q.1 q.2 (auE st lk o i E)).1 = fwM S p n := by rw [show n - i = (n - (i + 1)) + 1 by omega] at hA; rw [ho, ha]; exact hA
      refine lv_aload_n hx hb d_MO_firstWrong_30 rfl (lv_at hl 0 rfl) ?_
      refine r_get hx hb hC hP i_MO (44) (by decide) rfl rfl 0 (by decide) l_MO_7 rfl d_MO_firstWrong_31 ?_
      refine lv_bipush (v := 32) hx hb d_MO_firstWrong_34 (by decide) ?_
      refine lv_iload_n hx hb d_MO_firstWrong_36 rfl (lv_at hl 1 rfl) ?_
      refine lv_imul hx hb d_MO_firstWrong_37 ?_
      refine lv_iload hx hb d_MO_firstWrong_38 (lv_at hl 4 rfl) ?_
      refine lv_iadd hx hb d_MO_firstWrong_40 ?_
      rw [show (32 * (nI p)) + (nI i) = nI (32 * p + i) from (nI_32 p i)]
      refine r_ild hx hb hC hP (45) (by decide) rfl (32 * p + i) rfl (by omega) (by decide) d_MO_firstWrong_41 ?_
      rw [show X 45 (32 * p + i) = o from ((hK 45 _ (by omega)).trans ho.symm)]
      refine lv_istore (lv' := [(5, .int o), (0, .ref (gA G 44)), (1, .int (nI p)), (2, .int du), (3, .int le), (4, .int (nI i))]) hx hb d_MO_firstWrong_42 hl (by decide) rfl (fun ls hl => ?_)
      refine lv_aload_n hx hb d_MO_firstWrong_44 rfl (lv_at hl 1 rfl) ?_
      refine r_get hx hb hC hP i_MO (44) (by decide) rfl rfl 1 (by decide) l_MO_13 rfl d_MO_firstWrong_45 ?_
      refine lv_bipush (v := 32) hx hb d_MO_firstWrong_48 (by decide) ?_
      refine lv_iload_n hx hb d_MO_firstWrong_50 rfl (lv_at hl 2 rfl) ?_
      refine lv_imul hx hb d_MO_firstWrong_51 ?_
      refine lv_iload hx hb d_MO_firstWrong_52 (lv_at hl 5 rfl) ?_
      refine lv_iadd hx hb d_MO_firstWrong_54 ?_
      rw [show (32 * (nI p)) + (nI i) = nI (32 * p + i) from (nI_32 p i)]
      refine r_ild hx hb hC hP (46) (by decide) rfl (32 * p + i) rfl (by omega) (by decide) d_MO_firstWrong_55 ?_
      rw [show X 46 (32 * p + i) = a from ((hK 46 _ (by omega)).trans ha.symm)]
      refine lv_istore (lv' := [(6, .int a), (5, .int o), (0, .ref (gA G 44)), (1, .int (nI p)), (2, .int du), (3, .int le), (4, .int (nI i))]) hx hb d_MO_firstWrong_56 hl (by decide) rfl (fun ls hl => ?_)
      refine lv_aload_n hx hb d_MO_firstWrong_58 rfl (lv_at hl 2 rfl) ?_
      refine r_get hx hb hC hP i_MO (44) (by decide) rfl rfl 8 (by decide) l_MO_58 rfl d_MO_firstWrong_59 ?_
      rw [show X 44 8 = nI st.length from hD]
      refine lv_if_ne (tgt := 68) hx hb d_MO_firstWrong_62 (by decide) (fun c_62 => ?_) (fun c_62 => ?_)
      · have c_62 : ¬ st.length = 0 := fun h => c_62 ((q_eq (a := st.length) (b := 0) rfl rfl (by omega) (by omega)).mpr h)
        obtain ⟨fr, r, rfl⟩ : ∃ fr r, st = fr :: r := by cases st with | nil => exact absurd rfl c_62 | cons fr r => exact ⟨fr, r, rfl⟩
        have hL2 : r.length + 1 ≤ 6 := hL
        refine lv_iload_n hx hb d_MO_firstWrong_68 rfl (lv_at hl 4 rfl) ?_
        refine lv_if_eq (tgt := 106) hx hb d_MO_firstWrong_69 (by decide) (fun c_69 => ?_) (fun c_69 => ?_)
        · have hlk0 : lk = 0 := lkDue_0.mp (hdu.symm.trans c_69)
          refine lv_iload hx hb d_MO_firstWrong_106 (lv_at hl 1 rfl) ?_
          refine lv_bipush (v := 18) hx hb d_MO_firstWrong_108 (by decide) ?_
          refine lv_icmp_ne (tgt := 201) hx hb d_MO_firstWrong_110 (by decide) (fun c_110 => ?_) (fun c_110 => ?_)
          · refine lv_iload hx hb d_MO_firstWrong_201 (lv_at hl 1 rfl) ?_
            refine lv_bipush (v := 16) hx hb d_MO_firstWrong_203 (by decide) ?_
            refine lv_icmp_eq (tgt := 268) hx hb d_MO_firstWrong_205 (by decide) (fun c_205 => ?_) (fun c_205 => ?_)
            · refine lv_iload hx hb d_MO_firstWrong_268 (lv_at hl 6 rfl) ?_
              exact e_i hx hb hr hlk hC hP hS d_MO_firstWrong_270 ⟨by rw [as_bad hlk0 c_110 (show auBad (fr :: r) o = true from (by rw [auBad, show decide (o = 16) = true from decide_eq_true c_205] <;> rfl))] at hA2; exact hA2, hK⟩
            · refine lv_iload hx hb d_MO_firstWrong_208 (lv_at hl 1 rfl) ?_
              refine lv_bipush (v := 17) hx hb d_MO_firstWrong_210 (by decide) ?_
              refine lv_icmp_eq (tgt := 268) hx hb d_MO_firstWrong_212 (by decide) (fun c_212 => ?_) (fun c_212 => ?_)
              · refine lv_iload hx hb d_MO_firstWrong_268 (lv_at hl 6 rfl) ?_
                exact e_i hx hb hr hlk hC hP hS d_MO_firstWrong_270 ⟨by rw [as_bad hlk0 c_110 (show auBad (fr :: r) o = true from (by rw [auBad, show decide (o = 16) = false from decide_eq_false c_205, show decide (o = 17) = true from decide_eq_true c_212] <;> rfl))] at hA2; exact hA2, hK⟩
              · refine lv_iload hx hb d_MO_firstWrong_215 (lv_at hl 1 rfl) ?_
                refine lv_iconst (v := 4) hx hb d_MO_firstWrong_217 (by decide) ?_
                refine lv_icmp_eq (tgt := 227) hx hb d_MO_firstWrong_218 (by decide) (fun c_218 => ?_) (fun c_218 => ?_)
                · refine lv_aload_n hx hb d_MO_firstWrong_227 rfl (lv_at hl 2 rfl) ?_
                  refine lv_iconst (v := 3) hx hb d_MO_firstWrong_228 (by decide) ?_
                  refine r_i hC hS (r_runV (np := 1) (As := [.int 3]) (rest := []) hx hb hml hC hP hS (by decide) rfl rfl (m_MO_inside l G X (r.length + 1) (by omega) hD 3) l_MO_65 im_MO_inside se_MO_inside in_MO c_MO_inside_in (by decide +kernel) ⟨by simp only [rmF]; omega, by simp only [rmF]; omega⟩ rfl hl.1 (Nat.le_of_ble_eq_true rfl) d_MO_firstWrong_229 ⟨Nat.le_refl _, Nat.le_refl _⟩) (fun r_229 S_229 H locs hw hP hS => ?_)
                  obtain ⟨rfl, hSe⟩ := hw
                  rw [hSe] at hP
                  refine lv_if_eq (tgt := 268) hx hb d_MO_firstWrong_232 (by decide) (fun c_232 => ?_) (fun c_232 => ?_)
                  · have c_232 := b2i_f c_232
                    have c_232 := (hR.has _).symm.trans c_232
                    refine lv_iload hx hb d_MO_firstWrong_268 (lv_at hl 6 rfl) ?_
                    exact e_i hx hb hr hlk hC hP hS d_MO_firstWrong_270 ⟨by rw [as_bad hlk0 c_110 (show auBad (fr :: r) o = true from (by rw [auBad, show decide (o = 16) = false from decide_eq_false c_205, show decide (o = 17) = false from decide_eq_false c_212, show decide (o = 4) = true from decide_eq_true c_218, c_232] <;> rfl))] at hA2; exact hA2, hK⟩
                  · have c_232 := b2i_t c_232
                    have c_232 := (hR.has _).symm.trans c_232
                    refine lv_iload hx hb d_MO_firstWrong_235 (lv_at hl 1 rfl) ?_
                    refine lv_bipush (v := 8) hx hb d_MO_firstWrong_237 (by decide) ?_
                    refine lv_icmp_ne (tgt := 251) hx hb d_MO_firstWrong_239 (by decide) (fun c_239 => ?_) (fun c_239 => ?_)
                    · refine lv_iload hx hb d_MO_firstWrong_251 (lv_at hl 1 rfl) ?_
                      refine r_i hC hS (r_runS (np := 1) (As := [.int o]) (rest := []) hx hb hml hC hP hS (m_MO_opens l G X o) l_MO_69 st_MO_opens in_MO c_MO_opens_in (by decide +kernel) ⟨by simp only [rmF]; omega, by simp only [rmF]; omega⟩ rfl hl.1 (Nat.le_of_ble_eq_true rfl) d_MO_firstWrong_253 ⟨Nat.le_refl _, Nat.le_refl _⟩) (fun r_253 S_253 H locs hw hP hS => ?_)
                      obtain ⟨rfl, hSe⟩ := hw
                      rw [hSe] at hP
                      refine lv_if_eq (tgt := 271) hx hb d_MO_firstWrong_256 (by decide) (fun c_256 => ?_) (fun c_256 => ?_)
                      · have c_256 := b2i_f c_256
                        refine lv_iload hx hb d_MO_firstWrong_271 (lv_at hl 1 rfl) ?_
                        refine r_i hC hS (r_runS (np := 1) (As := [.int o]) (rest := []) hx hb hml hC hP hS (m_MO_opens l G X o) l_MO_69 st_MO_opens in_MO c_MO_opens_in (by decide +kernel) ⟨by simp only [rmF]; omega, by simp only [rmF]; omega⟩ rfl hl.1 (Nat.le_of_ble_eq_true rfl) d_MO_firstWrong_273 ⟨Nat.le_refl _, Nat.le_refl _⟩) (fun r_273 S_273 H locs hw hP hS => ?_)
                        obtain ⟨rfl, hSe⟩ := hw
                        rw [hSe] at hP
                        refine lv_if_eq (tgt := 298) hx hb d_MO_firstWrong_276 (by decide) (fun c_276 => ?_) (fun c_276 => ?_)
                        · have c_276 := b2i_f c_276
                          refine lv_iinc (v := nI (i + 1)) (lv' := [(4, .int (nI (i + 1))), (6, .int a), (5, .int o), (0, .ref (gA G 44)), (1, .int (nI p)), (2, .int du), (3, .int le)]) hx hb d_MO_firstWrong_298 hl (k := 6) rfl (nI_1 _) (by decide) rfl (fun ls hl => ?_)
                          refine lv_goto (tgt := 19) hx hb d_MO_firstWrong_301 (by decide) ?_
                          exact ih (i + 1) _ (fr :: r) 0 _ _ (by omega) (by omega) (by rw [c_69]; rfl) (fun h => absurd rfl h) hR hD hL hK (Or.inl rfl) (fun h => absurd rfl h) (fun h => absurd h (by simp)) hbk ⟨_, by rw [as_on hlk0 c_110 (show auBad (fr :: r) o = false from (by rw [auBad, show decide (o = 16) = false from decide_eq_false c_205, show decide (o = 17) = false from decide_eq_false c_212, show decide (o = 4) = true from decide_eq_true c_218, c_232, show decide (o = 8) = false from decide_eq_false c_239, c_256] <;> rfl)) c_276] at hA2; exact hA2⟩ _ _ _ hP hS (lv_sub hl [3, 4, 5, 6, 0] rfl)
                        · have c_276 := b2i_t c_276
                          refine lv_aload_n hx hb d_MO_firstWrong_279 rfl (lv_at hl 2 rfl) ?_
                          refine lv_iload hx hb d_MO_firstWrong_280 (lv_at hl 1 rfl) ?_
                          refine lv_iload hx hb d_MO_firstWrong_282 (lv_at hl 1 rfl) ?_
                          refine lv_bipush (v := 9) hx hb d_MO_firstWrong_284 (by decide) ?_
                          refine lv_icmp_ne (tgt := 294) hx hb d_MO_firstWrong_286 (by decide) (fun c_286 => ?_) (fun c_286 => ?_)
                          · refine lv_iconst (v := 0) hx hb d_MO_firstWrong_294 (by decide) ?_
                            refine r_v hC hS (r_runV (np := 2) (As := [.int o, .int 0]) (rest := []) hx hb hml hC hP hS (by decide) rfl rfl (m_MO_openBlock l G X (r.length + 1) (by omega) hD o 0) l_MO_61 im_MO_openBlock se_MO_openBlock in_MO c_MO_openBlock_in (by decide +kernel) ⟨by simp only [rmF]; omega, by simp only [rmF]; omega⟩ rfl hl.1 (Nat.le_of_ble_eq_true rfl) d_MO_firstWrong_295 ⟨Nat.le_refl _, Nat.le_refl _⟩) (fun S_295 H locs hw hP hS => ?_)
                            rw [hw] at hP
                            refine lv_iinc (v := nI (i + 1)) (lv' := [(4, .int (nI (i + 1))), (6, .int a), (5, .int o), (0, .ref (gA G 44)), (1, .int (nI p)), (2, .int du), (3, .int le)]) hx hb d_MO_firstWrong_298 hl (k := 6) rfl (nI_1 _) (by decide) rfl (fun ls hl => ?_)
                            refine lv_goto (tgt := 19) hx hb d_MO_firstWrong_301 (by decide) ?_
                            exact ih (i + 1) _ ((o, 0, nI i) :: fr :: r) 0 _ _ (by omega) (by omega) (by rw [c_69]; rfl) (fun h => absurd rfl h) (hR.push _ _ _) (moOpen_8 _ _ _ _) (by have h6 : ¬ r.length + 1 = 6 := (by rw [c_256] at c_276; exact absurd c_276 (by decide)); simp only [List.length_cons]; omega) (hK.psh _ _ _) (Or.inl rfl) (fun h => absurd rfl h) (fun h => absurd h (by simp)) ⟨hbk, Or.inl rfl, fun h => absurd h (by simp)⟩ ⟨_, by rw [as_push hlk0 c_110 (show auBad (fr :: r) o = false from (by rw [auBad, show decide (o = 16) = false from decide_eq_false c_205, show decide (o = 17) = false from decide_eq_false c_212, show decide (o = 4) = true from decide_eq_true c_218, c_232, show decide (o = 8) = false from decide_eq_false c_239, c_256] <;> rfl)) c_276, if_neg c_286] at hA2; exact hA2⟩ _ _ _ hP hS (lv_sub hl [3, 4, 5, 6, 0] rfl)
                          · refine lv_iload hx hb d_MO_firstWrong_289 (lv_at hl 0 rfl) ?_
                            refine lv_goto (tgt := 295) hx hb d_MO_firstWrong_291 (by decide) ?_
                            refine r_v hC hS (r_runV (np := 2) (As := [.int o, .int a]) (rest := []) hx hb hml hC hP hS (by decide) rfl rfl (m_MO_openBlock l G X (r.length + 1) (by omega) hD o a) l_MO_61 im_MO_openBlock se_MO_openBlock in_MO c_MO_openBlock_in (by decide +kernel) ⟨by simp only [rmF]; omega, by simp only [rmF]; omega⟩ rfl hl.1 (Nat.le_of_ble_eq_true rfl) d_MO_firstWrong_295 ⟨Nat.le_refl _, Nat.le_refl _⟩) (fun S_295 H locs hw hP hS => ?_)
                            rw [hw] at hP
                            refine lv_iinc (v := nI (i + 1)) (lv' := [(4, .int (nI (i + 1))), (6, .int a), (5, .int o), (0, .ref (gA G 44)), (1, .int (nI p)), (2, .int du), (3, .int le)]) hx hb d_MO_firstWrong_298 hl (k := 6) rfl (nI_1 _) (by decide) rfl (fun ls hl => ?_)
                            refine lv_goto (tgt := 19) hx hb d_MO_firstWrong_301 (by decide) ?_
                            exact ih (i + 1) _ ((o, a, nI i) :: fr :: r) 0 _ _ (by omega) (by omega) (by rw [c_69]; rfl) (fun h => absurd rfl h) (hR.push _ _ _) (moOpen_8 _ _ _ _) (by have h6 : ¬ r.length + 1 = 6 := (by rw [c_256] at c_276; exact absurd c_276 (by decide)); simp only [List.length_cons]; omega) (hK.psh _ _ _) (Or.inl rfl) (fun h => absurd rfl h) (fun h => absurd h (by simp)) ⟨hbk, (ha ▸ htok i (by omega) (ho ▸ c_286)), fun h => absurd h (by simp)⟩ ⟨_, by rw [as_push hlk0 c_110 (show auBad (fr :: r) o = false from (by rw [auBad, show decide (o = 16) = false from decide_eq_false c_205, show decide (o = 17) = false from decide_eq_false c_212, show decide (o = 4) = true from decide_eq_true c_218, c_232, show decide (o = 8) = false from decide_eq_false c_239, c_256] <;> rfl)) c_276, if_pos c_286] at hA2; exact hA2⟩ _ _ _ hP hS (lv_sub hl [3, 4, 5, 6, 0] rfl)
                      · have c_256 := b2i_t c_256
                        refine lv_aload_n hx hb d_MO_firstWrong_259 rfl (lv_at hl 2 rfl) ?_
                        refine r_get hx hb hC hP i_MO (44) (by decide) rfl rfl 8 (by decide) l_MO_58 rfl d_MO_firstWrong_260 ?_
                        rw [show X 44 8 = nI (r.length + 1) from hD]
                        refine lv_bipush (v := 6) hx hb d_MO_firstWrong_263 (by decide) ?_
                        refine lv_icmp_ne (tgt := 271) hx hb d_MO_firstWrong_265 (by decide) (fun c_265 => ?_) (fun c_265 => ?_)
                        · have c_265 : ¬ r.length + 1 = 6 := fun h => c_265 ((q_eq (a := r.length + 1) (b := 6) rfl rfl (by omega) (by omega)).mpr h)
                          refine lv_iload hx hb d_MO_firstWrong_271 (lv_at hl 1 rfl) ?_
                          refine r_i hC hS (r_runS (np := 1) (As := [.int o]) (rest := []) hx hb hml hC hP hS (m_MO_opens l G X o) l_MO_69 st_MO_opens in_MO c_MO_opens_in (by decide +kernel) ⟨by simp only [rmF]; omega, by simp only [rmF]; omega⟩ rfl hl.1 (Nat.le_of_ble_eq_true rfl) d_MO_firstWrong_273 ⟨Nat.le_refl _, Nat.le_refl _⟩) (fun r_273 S_273 H locs hw hP hS => ?_)
                          obtain ⟨rfl, hSe⟩ := hw
                          rw [hSe] at hP
                          refine lv_if_eq (tgt := 298) hx hb d_MO_firstWrong_276 (by decide) (fun c_276 => ?_) (fun c_276 => ?_)
                          · have c_276 := b2i_f c_276
                            refine lv_iinc (v := nI (i + 1)) (lv' := [(4, .int (nI (i + 1))), (6, .int a), (5, .int o), (0, .ref (gA G 44)), (1, .int (nI p)), (2, .int du), (3, .int le)]) hx hb d_MO_firstWrong_298 hl (k := 6) rfl (nI_1 _) (by decide) rfl (fun ls hl => ?_)
                            refine lv_goto (tgt := 19) hx hb d_MO_firstWrong_301 (by decide) ?_
                            exact ih (i + 1) _ (fr :: r) 0 _ _ (by omega) (by omega) (by rw [c_69]; rfl) (fun h => absurd rfl h) hR hD hL hK (Or.inl rfl) (fun h => absurd rfl h) (fun h => absurd h (by simp)) hbk ⟨_, by rw [as_on hlk0 c_110 (show auBad (fr :: r) o = false from (by exfalso; rw [c_218] at c_256; exact absurd c_256 (by decide))) c_276] at hA2; exact hA2⟩ _ _ _ hP hS (lv_sub hl [3, 4, 5, 6, 0] rfl)
                          · have c_276 := b2i_t c_276
                            refine lv_aload_n hx hb d_MO_firstWrong_279 rfl (lv_at hl 2 rfl) ?_
                            refine lv_iload hx hb d_MO_firstWrong_280 (lv_at hl 1 rfl) ?_
                            refine lv_iload hx hb d_MO_firstWrong_282 (lv_at hl 1 rfl) ?_
                            refine lv_bipush (v := 9) hx hb d_MO_firstWrong_284 (by decide) ?_
                            refine lv_icmp_ne (tgt := 294) hx hb d_MO_firstWrong_286 (by decide) (fun c_286 => ?_) (fun c_286 => ?_)
                            · refine lv_iconst (v := 0) hx hb d_MO_firstWrong_294 (by decide) ?_
                              refine r_v hC hS (r_runV (np := 2) (As := [.int o, .int 0]) (rest := []) hx hb hml hC hP hS (by decide) rfl rfl (m_MO_openBlock l G X (r.length + 1) (by omega) hD o 0) l_MO_61 im_MO_openBlock se_MO_openBlock in_MO c_MO_openBlock_in (by decide +kernel) ⟨by simp only [rmF]; omega, by simp only [rmF]; omega⟩ rfl hl.1 (Nat.le_of_ble_eq_true rfl) d_MO_firstWrong_295 ⟨Nat.le_refl _, Nat.le_refl _⟩) (fun S_295 H locs hw hP hS => ?_)
                              rw [hw] at hP
                              refine lv_iinc (v := nI (i + 1)) (lv' := [(4, .int (nI (i + 1))), (6, .int a), (5, .int o), (0, .ref (gA G 44)), (1, .int (nI p)), (2, .int du), (3, .int le)]) hx hb d_MO_firstWrong_298 hl (k := 6) rfl (nI_1 _) (by decide) rfl (fun ls hl => ?_)
                              refine lv_goto (tgt := 19) hx hb d_MO_firstWrong_301 (by decide) ?_
                              exact ih (i + 1) _ ((o, 0, nI i) :: fr :: r) 0 _ _ (by omega) (by omega) (by rw [c_69]; rfl) (fun h => absurd rfl h) (hR.push _ _ _) (moOpen_8 _ _ _ _) (by have h6 : ¬ r.length + 1 = 6 := c_265; simp only [List.length_cons]; omega) (hK.psh _ _ _) (Or.inl rfl) (fun h => absurd rfl h) (fun h => absurd h (by simp)) ⟨hbk, Or.inl rfl, fun h => absurd h (by simp)⟩ ⟨_, by rw [as_push hlk0 c_110 (show auBad (fr :: r) o = false from (by exfalso; rw [c_218] at c_256; exact absurd c_256 (by decide))) c_276, if_neg c_286] at hA2; exact hA2⟩ _ _ _ hP hS (lv_sub hl [3, 4, 5, 6, 0] rfl)
                            · refine lv_iload hx hb d_MO_firstWrong_289 (lv_at hl 0 rfl) ?_
                              refine lv_goto (tgt := 295) hx hb d_MO_firstWrong_291 (by decide) ?_
                              refine r_v hC hS (r_runV (np := 2) (As := [.int o, .int a]) (rest := []) hx hb hml hC hP hS (by decide) rfl rfl (m_MO_openBlock l G X (r.length + 1) (by omega) hD o a) l_MO_61 im_MO_openBlock se_MO_openBlock in_MO c_MO_openBlock_in (by decide +kernel) ⟨by simp only [rmF]; omega, by simp only [rmF]; omega⟩ rfl hl.1 (Nat.le_of_ble_eq_true rfl) d_MO_firstWrong_295 ⟨Nat.le_refl _, Nat.le_refl _⟩) (fun S_295 H locs hw hP hS => ?_)
                              rw [hw] at hP
                              refine lv_iinc (v := nI (i + 1)) (lv' := [(4, .int (nI (i + 1))), (6, .int a), (5, .int o), (0, .ref (gA G 44)), (1, .int (nI p)), (2, .int du), (3, .int le)]) hx hb d_MO_firstWrong_298 hl (k := 6) rfl (nI_1 _) (by decide) rfl (fun ls hl => ?_)
                              refine lv_goto (tgt := 19) hx hb d_MO_firstWrong_301 (by decide) ?_
                              exact ih (i + 1) _ ((o, a, nI i) :: fr :: r) 0 _ _ (by omega) (by omega) (by rw [c_69]; rfl) (fun h => absurd rfl h) (hR.push _ _ _) (moOpen_8 _ _ _ _) (by have h6 : ¬ r.length + 1 = 6 := c_265; simp only [List.length_cons]; omega) (hK.psh _ _ _) (Or.inl rfl) (fun h => absurd rfl h) (fun h => absurd h (by simp)) ⟨hbk, (ha ▸ htok i (by omega) (ho ▸ c_286)), fun h => absurd h (by simp)⟩ ⟨_, by rw [as_push hlk0 c_110 (show auBad (fr :: r) o = false from (by exfalso; rw [c_218] at c_256; exact absurd c_256 (by decide))) c_276, if_pos c_286] at hA2; exact hA2⟩ _ _ _ hP hS (lv_sub hl [3, 4, 5, 6, 0] rfl)
                        · have c_265 : r.length + 1 = 6 := (q_eq (a := r.length + 1) (b := 6) rfl rfl (by omega) (by omega)).mp c_265
                          refine lv_iload hx hb d_MO_firstWrong_268 (lv_at hl 6 rfl) ?_
                          exact e_i hx hb hr hlk hC hP hS d_MO_firstWrong_270 ⟨by rw [as_bad hlk0 c_110 (show auBad (fr :: r) o = true from (by exfalso; rw [c_218] at c_256; exact absurd c_256 (by decide)))] at hA2; exact hA2, hK⟩
                    · refine lv_aload_n hx hb d_MO_firstWrong_242 rfl (lv_at hl 2 rfl) ?_
                      refine lv_bipush (v := 16) hx hb d_MO_firstWrong_243 (by decide) ?_
                      refine r_i hC hS (r_runV (np := 1) (As := [.int 16]) (rest := []) hx hb hml hC hP hS (by decide) rfl rfl (m_MO_inside l G X (r.length + 1) (by omega) hD 16) l_MO_65 im_MO_inside se_MO_inside in_MO c_MO_inside_in (by decide +kernel) ⟨by simp only [rmF]; omega, by simp only [rmF]; omega⟩ rfl hl.1 (Nat.le_of_ble_eq_true rfl) d_MO_firstWrong_245 ⟨Nat.le_refl _, Nat.le_refl _⟩) (fun r_245 S_245 H locs hw hP hS => ?_)
                      obtain ⟨rfl, hSe⟩ := hw
                      rw [hSe] at hP
                      refine lv_if_eq (tgt := 268) hx hb d_MO_firstWrong_248 (by decide) (fun c_248 => ?_) (fun c_248 => ?_)
                      · have c_248 := b2i_f c_248
                        have c_248 := (hR.has _).symm.trans c_248
                        refine lv_iload hx hb d_MO_firstWrong_268 (lv_at hl 6 rfl) ?_
                        exact e_i hx hb hr hlk hC hP hS d_MO_firstWrong_270 ⟨by rw [as_bad hlk0 c_110 (show auBad (fr :: r) o = true from (by exfalso; rw [c_218] at c_239; exact absurd c_239 (by decide)))] at hA2; exact hA2, hK⟩
                      · have c_248 := b2i_t c_248
                        have c_248 := (hR.has _).symm.trans c_248
                        refine lv_iload hx hb d_MO_firstWrong_251 (lv_at hl 1 rfl) ?_
                        refine r_i hC hS (r_runS (np := 1) (As := [.int o]) (rest := []) hx hb hml hC hP hS (m_MO_opens l G X o) l_MO_69 st_MO_opens in_MO c_MO_opens_in (by decide +kernel) ⟨by simp only [rmF]; omega, by simp only [rmF]; omega⟩ rfl hl.1 (Nat.le_of_ble_eq_true rfl) d_MO_firstWrong_253 ⟨Nat.le_refl _, Nat.le_refl _⟩) (fun r_253 S_253 H locs hw hP hS => ?_)
                        obtain ⟨rfl, hSe⟩ := hw
                        rw [hSe] at hP
                        refine lv_if_eq (tgt := 271) hx hb d_MO_firstWrong_256 (by decide) (fun c_256 => ?_) (fun c_256 => ?_)
                        · have c_256 := b2i_f c_256
                          refine lv_iload hx hb d_MO_firstWrong_271 (lv_at hl 1 rfl) ?_
                          refine r_i hC hS (r_runS (np := 1) (As := [.int o]) (rest := []) hx hb hml hC hP hS (m_MO_opens l G X o) l_MO_69 st_MO_opens in_MO c_MO_opens_in (by decide +kernel) ⟨by simp only [rmF]; omega, by simp only [rmF]; omega⟩ rfl hl.1 (Nat.le_of_ble_eq_true rfl) d_MO_firstWrong_273 ⟨Nat.le_refl _, Nat.le_refl _⟩) (fun r_273 S_273 H locs hw hP hS => ?_)
                          obtain ⟨rfl, hSe⟩ := hw
                          rw [hSe] at hP
                          refine lv_if_eq (tgt := 298) hx hb d_MO_firstWrong_276 (by decide) (fun c_276 => ?_) (fun c_276 => ?_)
                          · have c_276 := b2i_f c_276
                            refine lv_iinc (v := nI (i + 1)) (lv' := [(4, .int (nI (i + 1))), (6, .int a), (5, .int o), (0, .ref (gA G 44)), (1, .int (nI p)), (2, .int du), (3, .int le)]) hx hb d_MO_firstWrong_298 hl (k := 6) rfl (nI_1 _) (by decide) rfl (fun ls hl => ?_)
                            refine lv_goto (tgt := 19) hx hb d_MO_firstWrong_301 (by decide) ?_
                            exact ih (i + 1) _ (fr :: r) 0 _ _ (by omega) (by omega) (by rw [c_69]; rfl) (fun h => absurd rfl h) hR hD hL hK (Or.inl rfl) (fun h => absurd rfl h) (fun h => absurd h (by simp)) hbk ⟨_, by rw [as_on hlk0 c_110 (show auBad (fr :: r) o = false from (by exfalso; rw [c_218] at c_239; exact absurd c_239 (by decide))) c_276] at hA2; exact hA2⟩ _ _ _ hP hS (lv_sub hl [3, 4, 5, 6, 0] rfl)
                          · have c_276 := b2i_t c_276
                            refine lv_aload_n hx hb d_MO_firstWrong_279 rfl (lv_at hl 2 rfl) ?_
                            refine lv_iload hx hb d_MO_firstWrong_280 (lv_at hl 1 rfl) ?_
                            refine lv_iload hx hb d_MO_firstWrong_282 (lv_at hl 1 rfl) ?_
                            refine lv_bipush (v := 9) hx hb d_MO_firstWrong_284 (by decide) ?_
                            refine lv_icmp_ne (tgt := 294) hx hb d_MO_firstWrong_286 (by decide) (fun c_286 => ?_) (fun c_286 => ?_)
                            · refine lv_iconst (v := 0) hx hb d_MO_firstWrong_294 (by decide) ?_
                              refine r_v hC hS (r_runV (np := 2) (As := [.int o, .int 0]) (rest := []) hx hb hml hC hP hS (by decide) rfl rfl (m_MO_openBlock l G X (r.length + 1) (by omega) hD o 0) l_MO_61 im_MO_openBlock se_MO_openBlock in_MO c_MO_openBlock_in (by decide +kernel) ⟨by simp only [rmF]; omega, by simp only [rmF]; omega⟩ rfl hl.1 (Nat.le_of_ble_eq_true rfl) d_MO_firstWrong_295 ⟨Nat.le_refl _, Nat.le_refl _⟩) (fun S_295 H locs hw hP hS => ?_)
                              rw [hw] at hP
                              refine lv_iinc (v := nI (i + 1)) (lv' := [(4, .int (nI (i + 1))), (6, .int a), (5, .int o), (0, .ref (gA G 44)), (1, .int (nI p)), (2, .int du), (3, .int le)]) hx hb d_MO_firstWrong_298 hl (k := 6) rfl (nI_1 _) (by decide) rfl (fun ls hl => ?_)
                              refine lv_goto (tgt := 19) hx hb d_MO_firstWrong_301 (by decide) ?_
                              exact ih (i + 1) _ ((o, 0, nI i) :: fr :: r) 0 _ _ (by omega) (by omega) (by rw [c_69]; rfl) (fun h => absurd rfl h) (hR.push _ _ _) (moOpen_8 _ _ _ _) (by have h6 : ¬ r.length + 1 = 6 := (by rw [c_256] at c_276; exact absurd c_276 (by decide)); simp only [List.length_cons]; omega) (hK.psh _ _ _) (Or.inl rfl) (fun h => absurd rfl h) (fun h => absurd h (by simp)) ⟨hbk, Or.inl rfl, fun h => absurd h (by simp)⟩ ⟨_, by rw [as_push hlk0 c_110 (show auBad (fr :: r) o = false from (by exfalso; rw [c_218] at c_239; exact absurd c_239 (by decide))) c_276, if_neg c_286] at hA2; exact hA2⟩ _ _ _ hP hS (lv_sub hl [3, 4, 5, 6, 0] rfl)
                            · refine lv_iload hx hb d_MO_firstWrong_289 (lv_at hl 0 rfl) ?_
                              refine lv_goto (tgt := 295) hx hb d_MO_firstWrong_291 (by decide) ?_
                              refine r_v hC hS (r_runV (np := 2) (As := [.int o, .int a]) (rest := []) hx hb hml hC hP hS (by decide) rfl rfl (m_MO_openBlock l G X (r.length + 1) (by omega) hD o a) l_MO_61 im_MO_openBlock se_MO_openBlock in_MO c_MO_openBlock_in (by decide +kernel) ⟨by simp only [rmF]; omega, by simp only [rmF]; omega⟩ rfl hl.1 (Nat.le_of_ble_eq_true rfl) d_MO_firstWrong_295 ⟨Nat.le_refl _, Nat.le_refl _⟩) (fun S_295 H locs hw hP hS => ?_)
                              rw [hw] at hP
                              refine lv_iinc (v := nI (i + 1)) (lv' := [(4, .int (nI (i + 1))), (6, .int a), (5, .int o), (0, .ref (gA G 44)), (1, .int (nI p)), (2, .int du), (3, .int le)]) hx hb d_MO_firstWrong_298 hl (k := 6) rfl (nI_1 _) (by decide) rfl (fun ls hl => ?_)
                              refine lv_goto (tgt := 19) hx hb d_MO_firstWrong_301 (by decide) ?_
                              exact ih (i + 1) _ ((o, a, nI i) :: fr :: r) 0 _ _ (by omega) (by omega) (by rw [c_69]; rfl) (fun h => absurd rfl h) (hR.push _ _ _) (moOpen_8 _ _ _ _) (by have h6 : ¬ r.length + 1 = 6 := (by rw [c_256] at c_276; exact absurd c_276 (by decide)); simp only [List.length_cons]; omega) (hK.psh _ _ _) (Or.inl rfl) (fun h => absurd rfl h) (fun h => absurd h (by simp)) ⟨hbk, (ha ▸ htok i (by omega) (ho ▸ c_286)), fun h => absurd h (by simp)⟩ ⟨_, by rw [as_push hlk0 c_110 (show auBad (fr :: r) o = false from (by exfalso; rw [c_218] at c_239; exact absurd c_239 (by decide))) c_276, if_pos c_286] at hA2; exact hA2⟩ _ _ _ hP hS (lv_sub hl [3, 4, 5, 6, 0] rfl)
                        · have c_256 := b2i_t c_256
                          refine lv_aload_n hx hb d_MO_firstWrong_259 rfl (lv_at hl 2 rfl) ?_
                          refine r_get hx hb hC hP i_MO (44) (by decide) rfl rfl 8 (by decide) l_MO_58 rfl d_MO_firstWrong_260 ?_
                          rw [show X 44 8 = nI (r.length + 1) from hD]
                          refine lv_bipush (v := 6) hx hb d_MO_firstWrong_263 (by decide) ?_
                          refine lv_icmp_ne (tgt := 271) hx hb d_MO_firstWrong_265 (by decide) (fun c_265 => ?_) (fun c_265 => ?_)
                          · have c_265 : ¬ r.length + 1 = 6 := fun h => c_265 ((q_eq (a := r.length + 1) (b := 6) rfl rfl (by omega) (by omega)).mpr h)
                            refine lv_iload hx hb d_MO_firstWrong_271 (lv_at hl 1 rfl) ?_
                            refine r_i hC hS (r_runS (np := 1) (As := [.int o]) (rest := []) hx hb hml hC hP hS (m_MO_opens l G X o) l_MO_69 st_MO_opens in_MO c_MO_opens_in (by decide +kernel) ⟨by simp only [rmF]; omega, by simp only [rmF]; omega⟩ rfl hl.1 (Nat.le_of_ble_eq_true rfl) d_MO_firstWrong_273 ⟨Nat.le_refl _, Nat.le_refl _⟩) (fun r_273 S_273 H locs hw hP hS => ?_)
                            obtain ⟨rfl, hSe⟩ := hw
                            rw [hSe] at hP
                            refine lv_if_eq (tgt := 298) hx hb d_MO_firstWrong_276 (by decide) (fun c_276 => ?_) (fun c_276 => ?_)
                            · have c_276 := b2i_f c_276
                              refine lv_iinc (v := nI (i + 1)) (lv' := [(4, .int (nI (i + 1))), (6, .int a), (5, .int o), (0, .ref (gA G 44)), (1, .int (nI p)), (2, .int du), (3, .int le)]) hx hb d_MO_firstWrong_298 hl (k := 6) rfl (nI_1 _) (by decide) rfl (fun ls hl => ?_)
                              refine lv_goto (tgt := 19) hx hb d_MO_firstWrong_301 (by decide) ?_
                              exact ih (i + 1) _ (fr :: r) 0 _ _ (by omega) (by omega) (by rw [c_69]; rfl) (fun h => absurd rfl h) hR hD hL hK (Or.inl rfl) (fun h => absurd rfl h) (fun h => absurd h (by simp)) hbk ⟨_, by rw [as_on hlk0 c_110 (show auBad (fr :: r) o = false from (by exfalso; rw [c_218] at c_239; exact absurd c_239 (by decide))) c_276] at hA2; exact hA2⟩ _ _ _ hP hS (lv_sub hl [3, 4, 5, 6, 0] rfl)
                            · have c_276 := b2i_t c_276
                              refine lv_aload_n hx hb d_MO_firstWrong_279 rfl (lv_at hl 2 rfl) ?_
                              refine lv_iload hx hb d_MO_firstWrong_280 (lv_at hl 1 rfl) ?_
                              refine lv_iload hx hb d_MO_firstWrong_282 (lv_at hl 1 rfl) ?_
                              refine lv_bipush (v := 9) hx hb d_MO_firstWrong_284 (by decide) ?_
                              refine lv_icmp_ne (tgt := 294) hx hb d_MO_firstWrong_286 (by decide) (fun c_286 => ?_) (fun c_286 => ?_)
                              · refine lv_iconst (v := 0) hx hb d_MO_firstWrong_294 (by decide) ?_
                                refine r_v hC hS (r_runV (np := 2) (As := [.int o, .int 0]) (rest := []) hx hb hml hC hP hS (by decide) rfl rfl (m_MO_openBlock l G X (r.length + 1) (by omega) hD o 0) l_MO_61 im_MO_openBlock se_MO_openBlock in_MO c_MO_openBlock_in (by decide +kernel) ⟨by simp only [rmF]; omega, by simp only [rmF]; omega⟩ rfl hl.1 (Nat.le_of_ble_eq_true rfl) d_MO_firstWrong_295 ⟨Nat.le_refl _, Nat.le_refl _⟩) (fun S_295 H locs hw hP hS => ?_)
                                rw [hw] at hP
                                refine lv_iinc (v := nI (i + 1)) (lv' := [(4, .int (nI (i + 1))), (6, .int a), (5, .int o), (0, .ref (gA G 44)), (1, .int (nI p)), (2, .int du), (3, .int le)]) hx hb d_MO_firstWrong_298 hl (k := 6) rfl (nI_1 _) (by decide) rfl (fun ls hl => ?_)
                                refine lv_goto (tgt := 19) hx hb d_MO_firstWrong_301 (by decide) ?_
                                exact ih (i + 1) _ ((o, 0, nI i) :: fr :: r) 0 _ _ (by omega) (by omega) (by rw [c_69]; rfl) (fun h => absurd rfl h) (hR.push _ _ _) (moOpen_8 _ _ _ _) (by have h6 : ¬ r.length + 1 = 6 := c_265; simp only [List.length_cons]; omega) (hK.psh _ _ _) (Or.inl rfl) (fun h => absurd rfl h) (fun h => absurd h (by simp)) ⟨hbk, Or.inl rfl, fun h => absurd h (by simp)⟩ ⟨_, by rw [as_push hlk0 c_110 (show auBad (fr :: r) o = false from (by exfalso; rw [c_218] at c_239; exact absurd c_239 (by decide))) c_276, if_neg c_286] at hA2; exact hA2⟩ _ _ _ hP hS (lv_sub hl [3, 4, 5, 6, 0] rfl)
                              · refine lv_iload hx hb d_MO_firstWrong_289 (lv_at hl 0 rfl) ?_
                                refine lv_goto (tgt := 295) hx hb d_MO_firstWrong_291 (by decide) ?_
                                refine r_v hC hS (r_runV (np := 2) (As := [.int o, .int a]) (rest := []) hx hb hml hC hP hS (by decide) rfl rfl (m_MO_openBlock l G X (r.length + 1) (by omega) hD o a) l_MO_61 im_MO_openBlock se_MO_openBlock in_MO c_MO_openBlock_in (by decide +kernel) ⟨by simp only [rmF]; omega, by simp only [rmF]; omega⟩ rfl hl.1 (Nat.le_of_ble_eq_true rfl) d_MO_firstWrong_295 ⟨Nat.le_refl _, Nat.le_refl _⟩) (fun S_295 H locs hw hP hS => ?_)
                                rw [hw] at hP
                                refine lv_iinc (v := nI (i + 1)) (lv' := [(4, .int (nI (i + 1))), (6, .int a), (5, .int o), (0, .ref (gA G 44)), (1, .int (nI p)), (2, .int du), (3, .int le)]) hx hb d_MO_firstWrong_298 hl (k := 6) rfl (nI_1 _) (by decide) rfl (fun ls hl => ?_)
                                refine lv_goto (tgt := 19) hx hb d_MO_firstWrong_301 (by decide) ?_
                                exact ih (i + 1) _ ((o, a, nI i) :: fr :: r) 0 _ _ (by omega) (by omega) (by rw [c_69]; rfl) (fun h => absurd rfl h) (hR.push _ _ _) (moOpen_8 _ _ _ _) (by have h6 : ¬ r.length + 1 = 6 := c_265; simp only [List.length_cons]; omega) (hK.psh _ _ _) (Or.inl rfl) (fun h => absurd rfl h) (fun h => absurd h (by simp)) ⟨hbk, (ha ▸ htok i (by omega) (ho ▸ c_286)), fun h => absurd h (by simp)⟩ ⟨_, by rw [as_push hlk0 c_110 (show auBad (fr :: r) o = false from (by exfalso; rw [c_218] at c_239; exact absurd c_239 (by decide))) c_276, if_pos c_286] at hA2; exact hA2⟩ _ _ _ hP hS (lv_sub hl [3, 4, 5, 6, 0] rfl)
                          · have c_265 : r.length + 1 = 6 := (q_eq (a := r.length + 1) (b := 6) rfl rfl (by omega) (by omega)).mp c_265
                            refine lv_iload hx hb d_MO_firstWrong_268 (lv_at hl 6 rfl) ?_
                            exact e_i hx hb hr hlk hC hP hS d_MO_firstWrong_270 ⟨by rw [as_bad hlk0 c_110 (show auBad (fr :: r) o = true from (by exfalso; rw [c_218] at c_239; exact absurd c_239 (by decide)))] at hA2; exact hA2, hK⟩
                · refine lv_iload hx hb d_MO_firstWrong_221 (lv_at hl 1 rfl) ?_
                  refine lv_iconst (v := 5) hx hb d_MO_firstWrong_223 (by decide) ?_
                  refine lv_icmp_ne (tgt := 235) hx hb d_MO_firstWrong_224 (by decide) (fun c_224 => ?_) (fun c_224 => ?_)
                  · refine lv_iload hx hb d_MO_firstWrong_235 (lv_at hl 1 rfl) ?_
                    refine lv_bipush (v := 8) hx hb d_MO_firstWrong_237 (by decide) ?_
                    refine lv_icmp_ne (tgt := 251) hx hb d_MO_firstWrong_239 (by decide) (fun c_239 => ?_) (fun c_239 => ?_)
                    · refine lv_iload hx hb d_MO_firstWrong_251 (lv_at hl 1 rfl) ?_
                      refine r_i hC hS (r_runS (np := 1) (As := [.int o]) (rest := []) hx hb hml hC hP hS (m_MO_opens l G X o) l_MO_69 st_MO_opens in_MO c_MO_opens_in (by decide +kernel) ⟨by simp only [rmF]; omega, by simp only [rmF]; omega⟩ rfl hl.1 (Nat.le_of_ble_eq_true rfl) d_MO_firstWrong_253 ⟨Nat.le_refl _, Nat.le_refl _⟩) (fun r_253 S_253 H locs hw hP hS => ?_)
                      obtain ⟨rfl, hSe⟩ := hw
                      rw [hSe] at hP
                      refine lv_if_eq (tgt := 271) hx hb d_MO_firstWrong_256 (by decide) (fun c_256 => ?_) (fun c_256 => ?_)
                      · have c_256 := b2i_f c_256
                        refine lv_iload hx hb d_MO_firstWrong_271 (lv_at hl 1 rfl) ?_
                        refine r_i hC hS (r_runS (np := 1) (As := [.int o]) (rest := []) hx hb hml hC hP hS (m_MO_opens l G X o) l_MO_69 st_MO_opens in_MO c_MO_opens_in (by decide +kernel) ⟨by simp only [rmF]; omega, by simp only [rmF]; omega⟩ rfl hl.1 (Nat.le_of_ble_eq_true rfl) d_MO_firstWrong_273 ⟨Nat.le_refl _, Nat.le_refl _⟩) (fun r_273 S_273 H locs hw hP hS => ?_)
                        obtain ⟨rfl, hSe⟩ := hw
                        rw [hSe] at hP
                        refine lv_if_eq (tgt := 298) hx hb d_MO_firstWrong_276 (by decide) (fun c_276 => ?_) (fun c_276 => ?_)
                        · have c_276 := b2i_f c_276
                          refine lv_iinc (v := nI (i + 1)) (lv' := [(4, .int (nI (i + 1))), (6, .int a), (5, .int o), (0, .ref (gA G 44)), (1, .int (nI p)), (2, .int du), (3, .int le)]) hx hb d_MO_firstWrong_298 hl (k := 6) rfl (nI_1 _) (by decide) rfl (fun ls hl => ?_)
                          refine lv_goto (tgt := 19) hx hb d_MO_firstWrong_301 (by decide) ?_
                          exact ih (i + 1) _ (fr :: r) 0 _ _ (by omega) (by omega) (by rw [c_69]; rfl) (fun h => absurd rfl h) hR hD hL hK (Or.inl rfl) (fun h => absurd rfl h) (fun h => absurd h (by simp)) hbk ⟨_, by rw [as_on hlk0 c_110 (show auBad (fr :: r) o = false from (by rw [auBad, show decide (o = 16) = false from decide_eq_false c_205, show decide (o = 17) = false from decide_eq_false c_212, show decide (o = 4) = false from decide_eq_false c_218, show decide (o = 5) = false from decide_eq_false c_224, show decide (o = 8) = false from decide_eq_false c_239, c_256] <;> rfl)) c_276] at hA2; exact hA2⟩ _ _ _ hP hS (lv_sub hl [3, 4, 5, 6, 0] rfl)
                        · have c_276 := b2i_t c_276
                          refine lv_aload_n hx hb d_MO_firstWrong_279 rfl (lv_at hl 2 rfl) ?_
                          refine lv_iload hx hb d_MO_firstWrong_280 (lv_at hl 1 rfl) ?_
                          refine lv_iload hx hb d_MO_firstWrong_282 (lv_at hl 1 rfl) ?_
                          refine lv_bipush (v := 9) hx hb d_MO_firstWrong_284 (by decide) ?_
                          refine lv_icmp_ne (tgt := 294) hx hb d_MO_firstWrong_286 (by decide) (fun c_286 => ?_) (fun c_286 => ?_)
                          · refine lv_iconst (v := 0) hx hb d_MO_firstWrong_294 (by decide) ?_
                            refine r_v hC hS (r_runV (np := 2) (As := [.int o, .int 0]) (rest := []) hx hb hml hC hP hS (by decide) rfl rfl (m_MO_openBlock l G X (r.length + 1) (by omega) hD o 0) l_MO_61 im_MO_openBlock se_MO_openBlock in_MO c_MO_openBlock_in (by decide +kernel) ⟨by simp only [rmF]; omega, by simp only [rmF]; omega⟩ rfl hl.1 (Nat.le_of_ble_eq_true rfl) d_MO_firstWrong_295 ⟨Nat.le_refl _, Nat.le_refl _⟩) (fun S_295 H locs hw hP hS => ?_)
                            rw [hw] at hP
                            refine lv_iinc (v := nI (i + 1)) (lv' := [(4, .int (nI (i + 1))), (6, .int a), (5, .int o), (0, .ref (gA G 44)), (1, .int (nI p)), (2, .int du), (3, .int le)]) hx hb d_MO_firstWrong_298 hl (k := 6) rfl (nI_1 _) (by decide) rfl (fun ls hl => ?_)
                            refine lv_goto (tgt := 19) hx hb d_MO_firstWrong_301 (by decide) ?_
                            exact ih (i + 1) _ ((o, 0, nI i) :: fr :: r) 0 _ _ (by omega) (by omega) (by rw [c_69]; rfl) (fun h => absurd rfl h) (hR.push _ _ _) (moOpen_8 _ _ _ _) (by have h6 : ¬ r.length + 1 = 6 := (by rw [c_256] at c_276; exact absurd c_276 (by decide)); simp only [List.length_cons]; omega) (hK.psh _ _ _) (Or.inl rfl) (fun h => absurd rfl h) (fun h => absurd h (by simp)) ⟨hbk, Or.inl rfl, fun h => absurd h (by simp)⟩ ⟨_, by rw [as_push hlk0 c_110 (show auBad (fr :: r) o = false from (by rw [auBad, show decide (o = 16) = false from decide_eq_false c_205, show decide (o = 17) = false from decide_eq_false c_212, show decide (o = 4) = false from decide_eq_false c_218, show decide (o = 5) = false from decide_eq_false c_224, show decide (o = 8) = false from decide_eq_false c_239, c_256] <;> rfl)) c_276, if_neg c_286] at hA2; exact hA2⟩ _ _ _ hP hS (lv_sub hl [3, 4, 5, 6, 0] rfl)
                          · refine lv_iload hx hb d_MO_firstWrong_289 (lv_at hl 0 rfl) ?_
                            refine lv_goto (tgt := 295) hx hb d_MO_firstWrong_291 (by decide) ?_
                            refine r_v hC hS (r_runV (np := 2) (As := [.int o, .int a]) (rest := []) hx hb hml hC hP hS (by decide) rfl rfl (m_MO_openBlock l G X (r.length + 1) (by omega) hD o a) l_MO_61 im_MO_openBlock se_MO_openBlock in_MO c_MO_openBlock_in (by decide +kernel) ⟨by simp only [rmF]; omega, by simp only [rmF]; omega⟩ rfl hl.1 (Nat.le_of_ble_eq_true rfl) d_MO_firstWrong_295 ⟨Nat.le_refl _, Nat.le_refl _⟩) (fun S_295 H locs hw hP hS => ?_)
                            rw [hw] at hP
                            refine lv_iinc (v := nI (i + 1)) (lv' := [(4, .int (nI (i + 1))), (6, .int a), (5, .int o), (0, .ref (gA G 44)), (1, .int (nI p)), (2, .int du), (3, .int le)]) hx hb d_MO_firstWrong_298 hl (k := 6) rfl (nI_1 _) (by decide) rfl (fun ls hl => ?_)
                            refine lv_goto (tgt := 19) hx hb d_MO_firstWrong_301 (by decide) ?_
                            exact ih (i + 1) _ ((o, a, nI i) :: fr :: r) 0 _ _ (by omega) (by omega) (by rw [c_69]; rfl) (fun h => absurd rfl h) (hR.push _ _ _) (moOpen_8 _ _ _ _) (by have h6 : ¬ r.length + 1 = 6 := (by rw [c_256] at c_276; exact absurd c_276 (by decide)); simp only [List.length_cons]; omega) (hK.psh _ _ _) (Or.inl rfl) (fun h => absurd rfl h) (fun h => absurd h (by simp)) ⟨hbk, (ha ▸ htok i (by omega) (ho ▸ c_286)), fun h => absurd h (by simp)⟩ ⟨_, by rw [as_push hlk0 c_110 (show auBad (fr :: r) o = false from (by rw [auBad, show decide (o = 16) = false from decide_eq_false c_205, show decide (o = 17) = false from decide_eq_false c_212, show decide (o = 4) = false from decide_eq_false c_218, show decide (o = 5) = false from decide_eq_false c_224, show decide (o = 8) = false from decide_eq_false c_239, c_256] <;> rfl)) c_276, if_pos c_286] at hA2; exact hA2⟩ _ _ _ hP hS (lv_sub hl [3, 4, 5, 6, 0] rfl)
                      · have c_256 := b2i_t c_256
                        refine lv_aload_n hx hb d_MO_firstWrong_259 rfl (lv_at hl 2 rfl) ?_
                        refine r_get hx hb hC hP i_MO (44) (by decide) rfl rfl 8 (by decide) l_MO_58 rfl d_MO_firstWrong_260 ?_
                        rw [show X 44 8 = nI (r.length + 1) from hD]
                        refine lv_bipush (v := 6) hx hb d_MO_firstWrong_263 (by decide) ?_
                        refine lv_icmp_ne (tgt := 271) hx hb d_MO_firstWrong_265 (by decide) (fun c_265 => ?_) (fun c_265 => ?_)
                        · have c_265 : ¬ r.length + 1 = 6 := fun h => c_265 ((q_eq (a := r.length + 1) (b := 6) rfl rfl (by omega) (by omega)).mpr h)
                          refine lv_iload hx hb d_MO_firstWrong_271 (lv_at hl 1 rfl) ?_
                          refine r_i hC hS (r_runS (np := 1) (As := [.int o]) (rest := []) hx hb hml hC hP hS (m_MO_opens l G X o) l_MO_69 st_MO_opens in_MO c_MO_opens_in (by decide +kernel) ⟨by simp only [rmF]; omega, by simp only [rmF]; omega⟩ rfl hl.1 (Nat.le_of_ble_eq_true rfl) d_MO_firstWrong_273 ⟨Nat.le_refl _, Nat.le_refl _⟩) (fun r_273 S_273 H locs hw hP hS => ?_)
                          obtain ⟨rfl, hSe⟩ := hw
                          rw [hSe] at hP
                          refine lv_if_eq (tgt := 298) hx hb d_MO_firstWrong_276 (by decide) (fun c_276 => ?_) (fun c_276 => ?_)
                          · have c_276 := b2i_f c_276
                            refine lv_iinc (v := nI (i + 1)) (lv' := [(4, .int (nI (i + 1))), (6, .int a), (5, .int o), (0, .ref (gA G 44)), (1, .int (nI p)), (2, .int du), (3, .int le)]) hx hb d_MO_firstWrong_298 hl (k := 6) rfl (nI_1 _) (by decide) rfl (fun ls hl => ?_)
                            refine lv_goto (tgt := 19) hx hb d_MO_firstWrong_301 (by decide) ?_
                            exact ih (i + 1) _ (fr :: r) 0 _ _ (by omega) (by omega) (by rw [c_69]; rfl) (fun h => absurd rfl h) hR hD hL hK (Or.inl rfl) (fun h => absurd rfl h) (fun h => absurd h (by simp)) hbk ⟨_, by rw [as_on hlk0 c_110 (show auBad (fr :: r) o = false from (by rw [auBad, show decide (o = 16) = false from decide_eq_false c_205, show decide (o = 17) = false from decide_eq_false c_212, show decide (o = 4) = false from decide_eq_false c_218, show decide (o = 5) = false from decide_eq_false c_224, show decide (o = 8) = false from decide_eq_false c_239, c_256, show decide ((fr :: r).length = 6) = false from decide_eq_false c_265] <;> rfl)) c_276] at hA2; exact hA2⟩ _ _ _ hP hS (lv_sub hl [3, 4, 5, 6, 0] rfl)
                          · have c_276 := b2i_t c_276
                            refine lv_aload_n hx hb d_MO_firstWrong_279 rfl (lv_at hl 2 rfl) ?_
                            refine lv_iload hx hb d_MO_firstWrong_280 (lv_at hl 1 rfl) ?_
                            refine lv_iload hx hb d_MO_firstWrong_282 (lv_at hl 1 rfl) ?_
                            refine lv_bipush (v := 9) hx hb d_MO_firstWrong_284 (by decide) ?_
                            refine lv_icmp_ne (tgt := 294) hx hb d_MO_firstWrong_286 (by decide) (fun c_286 => ?_) (fun c_286 => ?_)
                            · refine lv_iconst (v := 0) hx hb d_MO_firstWrong_294 (by decide) ?_
                              refine r_v hC hS (r_runV (np := 2) (As := [.int o, .int 0]) (rest := []) hx hb hml hC hP hS (by decide) rfl rfl (m_MO_openBlock l G X (r.length + 1) (by omega) hD o 0) l_MO_61 im_MO_openBlock se_MO_openBlock in_MO c_MO_openBlock_in (by decide +kernel) ⟨by simp only [rmF]; omega, by simp only [rmF]; omega⟩ rfl hl.1 (Nat.le_of_ble_eq_true rfl) d_MO_firstWrong_295 ⟨Nat.le_refl _, Nat.le_refl _⟩) (fun S_295 H locs hw hP hS => ?_)
                              rw [hw] at hP
                              refine lv_iinc (v := nI (i + 1)) (lv' := [(4, .int (nI (i + 1))), (6, .int a), (5, .int o), (0, .ref (gA G 44)), (1, .int (nI p)), (2, .int du), (3, .int le)]) hx hb d_MO_firstWrong_298 hl (k := 6) rfl (nI_1 _) (by decide) rfl (fun ls hl => ?_)
                              refine lv_goto (tgt := 19) hx hb d_MO_firstWrong_301 (by decide) ?_
                              exact ih (i + 1) _ ((o, 0, nI i) :: fr :: r) 0 _ _ (by omega) (by omega) (by rw [c_69]; rfl) (fun h => absurd rfl h) (hR.push _ _ _) (moOpen_8 _ _ _ _) (by have h6 : ¬ r.length + 1 = 6 := c_265; simp only [List.length_cons]; omega) (hK.psh _ _ _) (Or.inl rfl) (fun h => absurd rfl h) (fun h => absurd h (by simp)) ⟨hbk, Or.inl rfl, fun h => absurd h (by simp)⟩ ⟨_, by rw [as_push hlk0 c_110 (show auBad (fr :: r) o = false from (by rw [auBad, show decide (o = 16) = false from decide_eq_false c_205, show decide (o = 17) = false from decide_eq_false c_212, show decide (o = 4) = false from decide_eq_false c_218, show decide (o = 5) = false from decide_eq_false c_224, show decide (o = 8) = false from decide_eq_false c_239, c_256, show decide ((fr :: r).length = 6) = false from decide_eq_false c_265] <;> rfl)) c_276, if_neg c_286] at hA2; exact hA2⟩ _ _ _ hP hS (lv_sub hl [3, 4, 5, 6, 0] rfl)
                            · refine lv_iload hx hb d_MO_firstWrong_289 (lv_at hl 0 rfl) ?_
                              refine lv_goto (tgt := 295) hx hb d_MO_firstWrong_291 (by decide) ?_
                              refine r_v hC hS (r_runV (np := 2) (As := [.int o, .int a]) (rest := []) hx hb hml hC hP hS (by decide) rfl rfl (m_MO_openBlock l G X (r.length + 1) (by omega) hD o a) l_MO_61 im_MO_openBlock se_MO_openBlock in_MO c_MO_openBlock_in (by decide +kernel) ⟨by simp only [rmF]; omega, by simp only [rmF]; omega⟩ rfl hl.1 (Nat.le_of_ble_eq_true rfl) d_MO_firstWrong_295 ⟨Nat.le_refl _, Nat.le_refl _⟩) (fun S_295 H locs hw hP hS => ?_)
                              rw [hw] at hP
                              refine lv_iinc (v := nI (i + 1)) (lv' := [(4, .int (nI (i + 1))), (6, .int a), (5, .int o), (0, .ref (gA G 44)), (1, .int (nI p)), (2, .int du), (3, .int le)]) hx hb d_MO_firstWrong_298 hl (k := 6) rfl (nI_1 _) (by decide) rfl (fun ls hl => ?_)
                              refine lv_goto (tgt := 19) hx hb d_MO_firstWrong_301 (by decide) ?_
                              exact ih (i + 1) _ ((o, a, nI i) :: fr :: r) 0 _ _ (by omega) (by omega) (by rw [c_69]; rfl) (fun h => absurd rfl h) (hR.push _ _ _) (moOpen_8 _ _ _ _) (by have h6 : ¬ r.length + 1 = 6 := c_265; simp only [List.length_cons]; omega) (hK.psh _ _ _) (Or.inl rfl) (fun h => absurd rfl h) (fun h => absurd h (by simp)) ⟨hbk, (ha ▸ htok i (by omega) (ho ▸ c_286)), fun h => absurd h (by simp)⟩ ⟨_, by rw [as_push hlk0 c_110 (show auBad (fr :: r) o = false from (by rw [auBad, show decide (o = 16) = false from decide_eq_false c_205, show decide (o = 17) = false from decide_eq_false c_212, show decide (o = 4) = false from decide_eq_false c_218, show decide (o = 5) = false from decide_eq_false c_224, show decide (o = 8) = false from decide_eq_false c_239, c_256, show decide ((fr :: r).length = 6) = false from decide_eq_false c_265] <;> rfl)) c_276, if_pos c_286] at hA2; exact hA2⟩ _ _ _ hP hS (lv_sub hl [3, 4, 5, 6, 0] rfl)
                        · have c_265 : r.length + 1 = 6 := (q_eq (a := r.length + 1) (b := 6) rfl rfl (by omega) (by omega)).mp c_265
                          refine lv_iload hx hb d_MO_firstWrong_268 (lv_at hl 6 rfl) ?_
                          exact e_i hx hb hr hlk hC hP hS d_MO_firstWrong_270 ⟨by rw [as_bad hlk0 c_110 (show auBad (fr :: r) o = true from (by rw [auBad, show decide (o = 16) = false from decide_eq_false c_205, show decide (o = 17) = false from decide_eq_false c_212, show decide (o = 4) = false from decide_eq_false c_218, show decide (o = 5) = false from decide_eq_false c_224, show decide (o = 8) = false from decide_eq_false c_239, c_256, show decide ((fr :: r).length = 6) = true from decide_eq_true c_265] <;> rfl))] at hA2; exact hA2, hK⟩
                    · refine lv_aload_n hx hb d_MO_firstWrong_242 rfl (lv_at hl 2 rfl) ?_
                      refine lv_bipush (v := 16) hx hb d_MO_firstWrong_243 (by decide) ?_
                      refine r_i hC hS (r_runV (np := 1) (As := [.int 16]) (rest := []) hx hb hml hC hP hS (by decide) rfl rfl (m_MO_inside l G X (r.length + 1) (by omega) hD 16) l_MO_65 im_MO_inside se_MO_inside in_MO c_MO_inside_in (by decide +kernel) ⟨by simp only [rmF]; omega, by simp only [rmF]; omega⟩ rfl hl.1 (Nat.le_of_ble_eq_true rfl) d_MO_firstWrong_245 ⟨Nat.le_refl _, Nat.le_refl _⟩) (fun r_245 S_245 H locs hw hP hS => ?_)
                      obtain ⟨rfl, hSe⟩ := hw
                      rw [hSe] at hP
                      refine lv_if_eq (tgt := 268) hx hb d_MO_firstWrong_248 (by decide) (fun c_248 => ?_) (fun c_248 => ?_)
                      · have c_248 := b2i_f c_248
                        have c_248 := (hR.has _).symm.trans c_248
                        refine lv_iload hx hb d_MO_firstWrong_268 (lv_at hl 6 rfl) ?_
                        exact e_i hx hb hr hlk hC hP hS d_MO_firstWrong_270 ⟨by rw [as_bad hlk0 c_110 (show auBad (fr :: r) o = true from (by rw [auBad, show decide (o = 16) = false from decide_eq_false c_205, show decide (o = 17) = false from decide_eq_false c_212, show decide (o = 4) = false from decide_eq_false c_218, show decide (o = 5) = false from decide_eq_false c_224, show decide (o = 8) = true from decide_eq_true c_239, c_248] <;> rfl))] at hA2; exact hA2, hK⟩
                      · have c_248 := b2i_t c_248
                        have c_248 := (hR.has _).symm.trans c_248
                        refine lv_iload hx hb d_MO_firstWrong_251 (lv_at hl 1 rfl) ?_
                        refine r_i hC hS (r_runS (np := 1) (As := [.int o]) (rest := []) hx hb hml hC hP hS (m_MO_opens l G X o) l_MO_69 st_MO_opens in_MO c_MO_opens_in (by decide +kernel) ⟨by simp only [rmF]; omega, by simp only [rmF]; omega⟩ rfl hl.1 (Nat.le_of_ble_eq_true rfl) d_MO_firstWrong_253 ⟨Nat.le_refl _, Nat.le_refl _⟩) (fun r_253 S_253 H locs hw hP hS => ?_)
                        obtain ⟨rfl, hSe⟩ := hw
                        rw [hSe] at hP
                        refine lv_if_eq (tgt := 271) hx hb d_MO_firstWrong_256 (by decide) (fun c_256 => ?_) (fun c_256 => ?_)
                        · have c_256 := b2i_f c_256
                          refine lv_iload hx hb d_MO_firstWrong_271 (lv_at hl 1 rfl) ?_
                          refine r_i hC hS (r_runS (np := 1) (As := [.int o]) (rest := []) hx hb hml hC hP hS (m_MO_opens l G X o) l_MO_69 st_MO_opens in_MO c_MO_opens_in (by decide +kernel) ⟨by simp only [rmF]; omega, by simp only [rmF]; omega⟩ rfl hl.1 (Nat.le_of_ble_eq_true rfl) d_MO_firstWrong_273 ⟨Nat.le_refl _, Nat.le_refl _⟩) (fun r_273 S_273 H locs hw hP hS => ?_)
                          obtain ⟨rfl, hSe⟩ := hw
                          rw [hSe] at hP
                          refine lv_if_eq (tgt := 298) hx hb d_MO_firstWrong_276 (by decide) (fun c_276 => ?_) (fun c_276 => ?_)
                          · have c_276 := b2i_f c_276
                            refine lv_iinc (v := nI (i + 1)) (lv' := [(4, .int (nI (i + 1))), (6, .int a), (5, .int o), (0, .ref (gA G 44)), (1, .int (nI p)), (2, .int du), (3, .int le)]) hx hb d_MO_firstWrong_298 hl (k := 6) rfl (nI_1 _) (by decide) rfl (fun ls hl => ?_)
                            refine lv_goto (tgt := 19) hx hb d_MO_firstWrong_301 (by decide) ?_
                            exact ih (i + 1) _ (fr :: r) 0 _ _ (by omega) (by omega) (by rw [c_69]; rfl) (fun h => absurd rfl h) hR hD hL hK (Or.inl rfl) (fun h => absurd rfl h) (fun h => absurd h (by simp)) hbk ⟨_, by rw [as_on hlk0 c_110 (show auBad (fr :: r) o = false from (by rw [auBad, show decide (o = 16) = false from decide_eq_false c_205, show decide (o = 17) = false from decide_eq_false c_212, show decide (o = 4) = false from decide_eq_false c_218, show decide (o = 5) = false from decide_eq_false c_224, show decide (o = 8) = true from decide_eq_true c_239, c_248, c_256] <;> rfl)) c_276] at hA2; exact hA2⟩ _ _ _ hP hS (lv_sub hl [3, 4, 5, 6, 0] rfl)
                          · have c_276 := b2i_t c_276
                            refine lv_aload_n hx hb d_MO_firstWrong_279 rfl (lv_at hl 2 rfl) ?_
                            refine lv_iload hx hb d_MO_firstWrong_280 (lv_at hl 1 rfl) ?_
                            refine lv_iload hx hb d_MO_firstWrong_282 (lv_at hl 1 rfl) ?_
                            refine lv_bipush (v := 9) hx hb d_MO_firstWrong_284 (by decide) ?_
                            refine lv_icmp_ne (tgt := 294) hx hb d_MO_firstWrong_286 (by decide) (fun c_286 => ?_) (fun c_286 => ?_)
                            · refine lv_iconst (v := 0) hx hb d_MO_firstWrong_294 (by decide) ?_
                              refine r_v hC hS (r_runV (np := 2) (As := [.int o, .int 0]) (rest := []) hx hb hml hC hP hS (by decide) rfl rfl (m_MO_openBlock l G X (r.length + 1) (by omega) hD o 0) l_MO_61 im_MO_openBlock se_MO_openBlock in_MO c_MO_openBlock_in (by decide +kernel) ⟨by simp only [rmF]; omega, by simp only [rmF]; omega⟩ rfl hl.1 (Nat.le_of_ble_eq_true rfl) d_MO_firstWrong_295 ⟨Nat.le_refl _, Nat.le_refl _⟩) (fun S_295 H locs hw hP hS => ?_)
                              rw [hw] at hP
                              refine lv_iinc (v := nI (i + 1)) (lv' := [(4, .int (nI (i + 1))), (6, .int a), (5, .int o), (0, .ref (gA G 44)), (1, .int (nI p)), (2, .int du), (3, .int le)]) hx hb d_MO_firstWrong_298 hl (k := 6) rfl (nI_1 _) (by decide) rfl (fun ls hl => ?_)
                              refine lv_goto (tgt := 19) hx hb d_MO_firstWrong_301 (by decide) ?_
                              exact ih (i + 1) _ ((o, 0, nI i) :: fr :: r) 0 _ _ (by omega) (by omega) (by rw [c_69]; rfl) (fun h => absurd rfl h) (hR.push _ _ _) (moOpen_8 _ _ _ _) (by have h6 : ¬ r.length + 1 = 6 := (by rw [c_256] at c_276; exact absurd c_276 (by decide)); simp only [List.length_cons]; omega) (hK.psh _ _ _) (Or.inl rfl) (fun h => absurd rfl h) (fun h => absurd h (by simp)) ⟨hbk, Or.inl rfl, fun h => absurd h (by simp)⟩ ⟨_, by rw [as_push hlk0 c_110 (show auBad (fr :: r) o = false from (by rw [auBad, show decide (o = 16) = false from decide_eq_false c_205, show decide (o = 17) = false from decide_eq_false c_212, show decide (o = 4) = false from decide_eq_false c_218, show decide (o = 5) = false from decide_eq_false c_224, show decide (o = 8) = true from decide_eq_true c_239, c_248, c_256] <;> rfl)) c_276, if_neg c_286] at hA2; exact hA2⟩ _ _ _ hP hS (lv_sub hl [3, 4, 5, 6, 0] rfl)
                            · refine lv_iload hx hb d_MO_firstWrong_289 (lv_at hl 0 rfl) ?_
                              refine lv_goto (tgt := 295) hx hb d_MO_firstWrong_291 (by decide) ?_
                              refine r_v hC hS (r_runV (np := 2) (As := [.int o, .int a]) (rest := []) hx hb hml hC hP hS (by decide) rfl rfl (m_MO_openBlock l G X (r.length + 1) (by omega) hD o a) l_MO_61 im_MO_openBlock se_MO_openBlock in_MO c_MO_openBlock_in (by decide +kernel) ⟨by simp only [rmF]; omega, by simp only [rmF]; omega⟩ rfl hl.1 (Nat.le_of_ble_eq_true rfl) d_MO_firstWrong_295 ⟨Nat.le_refl _, Nat.le_refl _⟩) (fun S_295 H locs hw hP hS => ?_)
                              rw [hw] at hP
                              refine lv_iinc (v := nI (i + 1)) (lv' := [(4, .int (nI (i + 1))), (6, .int a), (5, .int o), (0, .ref (gA G 44)), (1, .int (nI p)), (2, .int du), (3, .int le)]) hx hb d_MO_firstWrong_298 hl (k := 6) rfl (nI_1 _) (by decide) rfl (fun ls hl => ?_)
                              refine lv_goto (tgt := 19) hx hb d_MO_firstWrong_301 (by decide) ?_
                              exact ih (i + 1) _ ((o, a, nI i) :: fr :: r) 0 _ _ (by omega) (by omega) (by rw [c_69]; rfl) (fun h => absurd rfl h) (hR.push _ _ _) (moOpen_8 _ _ _ _) (by have h6 : ¬ r.length + 1 = 6 := (by rw [c_256] at c_276; exact absurd c_276 (by decide)); simp only [List.length_cons]; omega) (hK.psh _ _ _) (Or.inl rfl) (fun h => absurd rfl h) (fun h => absurd h (by simp)) ⟨hbk, (ha ▸ htok i (by omega) (ho ▸ c_286)), fun h => absurd h (by simp)⟩ ⟨_, by rw [as_push hlk0 c_110 (show auBad (fr :: r) o = false from (by rw [auBad, show decide (o = 16) = false from decide_eq_false c_205, show decide (o = 17) = false from decide_eq_false c_212, show decide (o = 4) = false from decide_eq_false c_218, show decide (o = 5) = false from decide_eq_false c_224, show decide (o = 8) = true from decide_eq_true c_239, c_248, c_256] <;> rfl)) c_276, if_pos c_286] at hA2; exact hA2⟩ _ _ _ hP hS (lv_sub hl [3, 4, 5, 6, 0] rfl)
                        · have c_256 := b2i_t c_256
                          refine lv_aload_n hx hb d_MO_firstWrong_259 rfl (lv_at hl 2 rfl) ?_
                          refine r_get hx hb hC hP i_MO (44) (by decide) rfl rfl 8 (by decide) l_MO_58 rfl d_MO_firstWrong_260 ?_
                          rw [show X 44 8 = nI (r.length + 1) from hD]
                          refine lv_bipush (v := 6) hx hb d_MO_firstWrong_263 (by decide) ?_
                          refine lv_icmp_ne (tgt := 271) hx hb d_MO_firstWrong_265 (by decide) (fun c_265 => ?_) (fun c_265 => ?_)
                          · have c_265 : ¬ r.length + 1 = 6 := fun h => c_265 ((q_eq (a := r.length + 1) (b := 6) rfl rfl (by omega) (by omega)).mpr h)
                            refine lv_iload hx hb d_MO_firstWrong_271 (lv_at hl 1 rfl) ?_
                            refine r_i hC hS (r_runS (np := 1) (As := [.int o]) (rest := []) hx hb hml hC hP hS (m_MO_opens l G X o) l_MO_69 st_MO_opens in_MO c_MO_opens_in (by decide +kernel) ⟨by simp only [rmF]; omega, by simp only [rmF]; omega⟩ rfl hl.1 (Nat.le_of_ble_eq_true rfl) d_MO_firstWrong_273 ⟨Nat.le_refl _, Nat.le_refl _⟩) (fun r_273 S_273 H locs hw hP hS => ?_)
                            obtain ⟨rfl, hSe⟩ := hw
                            rw [hSe] at hP
                            refine lv_if_eq (tgt := 298) hx hb d_MO_firstWrong_276 (by decide) (fun c_276 => ?_) (fun c_276 => ?_)
                            · have c_276 := b2i_f c_276
                              refine lv_iinc (v := nI (i + 1)) (lv' := [(4, .int (nI (i + 1))), (6, .int a), (5, .int o), (0, .ref (gA G 44)), (1, .int (nI p)), (2, .int du), (3, .int le)]) hx hb d_MO_firstWrong_298 hl (k := 6) rfl (nI_1 _) (by decide) rfl (fun ls hl => ?_)
                              refine lv_goto (tgt := 19) hx hb d_MO_firstWrong_301 (by decide) ?_
                              exact ih (i + 1) _ (fr :: r) 0 _ _ (by omega) (by omega) (by rw [c_69]; rfl) (fun h => absurd rfl h) hR hD hL hK (Or.inl rfl) (fun h => absurd rfl h) (fun h => absurd h (by simp)) hbk ⟨_, by rw [as_on hlk0 c_110 (show auBad (fr :: r) o = false from (by exfalso; rw [c_239] at c_256; exact absurd c_256 (by decide))) c_276] at hA2; exact hA2⟩ _ _ _ hP hS (lv_sub hl [3, 4, 5, 6, 0] rfl)
                            · have c_276 := b2i_t c_276
                              refine lv_aload_n hx hb d_MO_firstWrong_279 rfl (lv_at hl 2 rfl) ?_
                              refine lv_iload hx hb d_MO_firstWrong_280 (lv_at hl 1 rfl) ?_
                              refine lv_iload hx hb d_MO_firstWrong_282 (lv_at hl 1 rfl) ?_
                              refine lv_bipush (v := 9) hx hb d_MO_firstWrong_284 (by decide) ?_
                              refine lv_icmp_ne (tgt := 294) hx hb d_MO_firstWrong_286 (by decide) (fun c_286 => ?_) (fun c_286 => ?_)
                              · refine lv_iconst (v := 0) hx hb d_MO_firstWrong_294 (by decide) ?_
                                refine r_v hC hS (r_runV (np := 2) (As := [.int o, .int 0]) (rest := []) hx hb hml hC hP hS (by decide) rfl rfl (m_MO_openBlock l G X (r.length + 1) (by omega) hD o 0) l_MO_61 im_MO_openBlock se_MO_openBlock in_MO c_MO_openBlock_in (by decide +kernel) ⟨by simp only [rmF]; omega, by simp only [rmF]; omega⟩ rfl hl.1 (Nat.le_of_ble_eq_true rfl) d_MO_firstWrong_295 ⟨Nat.le_refl _, Nat.le_refl _⟩) (fun S_295 H locs hw hP hS => ?_)
                                rw [hw] at hP
                                refine lv_iinc (v := nI (i + 1)) (lv' := [(4, .int (nI (i + 1))), (6, .int a), (5, .int o), (0, .ref (gA G 44)), (1, .int (nI p)), (2, .int du), (3, .int le)]) hx hb d_MO_firstWrong_298 hl (k := 6) rfl (nI_1 _) (by decide) rfl (fun ls hl => ?_)
                                refine lv_goto (tgt := 19) hx hb d_MO_firstWrong_301 (by decide) ?_
                                exact ih (i + 1) _ ((o, 0, nI i) :: fr :: r) 0 _ _ (by omega) (by omega) (by rw [c_69]; rfl) (fun h => absurd rfl h) (hR.push _ _ _) (moOpen_8 _ _ _ _) (by have h6 : ¬ r.length + 1 = 6 := c_265; simp only [List.length_cons]; omega) (hK.psh _ _ _) (Or.inl rfl) (fun h => absurd rfl h) (fun h => absurd h (by simp)) ⟨hbk, Or.inl rfl, fun h => absurd h (by simp)⟩ ⟨_, by rw [as_push hlk0 c_110 (show auBad (fr :: r) o = false from (by exfalso; rw [c_239] at c_256; exact absurd c_256 (by decide))) c_276, if_neg c_286] at hA2; exact hA2⟩ _ _ _ hP hS (lv_sub hl [3, 4, 5, 6, 0] rfl)
                              · refine lv_iload hx hb d_MO_firstWrong_289 (lv_at hl 0 rfl) ?_
                                refine lv_goto (tgt := 295) hx hb d_MO_firstWrong_291 (by decide) ?_
                                refine r_v hC hS (r_runV (np := 2) (As := [.int o, .int a]) (rest := []) hx hb hml hC hP hS (by decide) rfl rfl (m_MO_openBlock l G X (r.length + 1) (by omega) hD o a) l_MO_61 im_MO_openBlock se_MO_openBlock in_MO c_MO_openBlock_in (by decide +kernel) ⟨by simp only [rmF]; omega, by simp only [rmF]; omega⟩ rfl hl.1 (Nat.le_of_ble_eq_true rfl) d_MO_firstWrong_295 ⟨Nat.le_refl _, Nat.le_refl _⟩) (fun S_295 H locs hw hP hS => ?_)
                                rw [hw] at hP
                                refine lv_iinc (v := nI (i + 1)) (lv' := [(4, .int (nI (i + 1))), (6, .int a), (5, .int o), (0, .ref (gA G 44)), (1, .int (nI p)), (2, .int du), (3, .int le)]) hx hb d_MO_firstWrong_298 hl (k := 6) rfl (nI_1 _) (by decide) rfl (fun ls hl => ?_)
                                refine lv_goto (tgt := 19) hx hb d_MO_firstWrong_301 (by decide) ?_
                                exact ih (i + 1) _ ((o, a, nI i) :: fr :: r) 0 _ _ (by omega) (by omega) (by rw [c_69]; rfl) (fun h => absurd rfl h) (hR.push _ _ _) (moOpen_8 _ _ _ _) (by have h6 : ¬ r.length + 1 = 6 := c_265; simp only [List.length_cons]; omega) (hK.psh _ _ _) (Or.inl rfl) (fun h => absurd rfl h) (fun h => absurd h (by simp)) ⟨hbk, (ha ▸ htok i (by omega) (ho ▸ c_286)), fun h => absurd h (by simp)⟩ ⟨_, by rw [as_push hlk0 c_110 (show auBad (fr :: r) o = false from (by exfalso; rw [c_239] at c_256; exact absurd c_256 (by decide))) c_276, if_pos c_286] at hA2; exact hA2⟩ _ _ _ hP hS (lv_sub hl [3, 4, 5, 6, 0] rfl)
                          · have c_265 : r.length + 1 = 6 := (q_eq (a := r.length + 1) (b := 6) rfl rfl (by omega) (by omega)).mp c_265
                            refine lv_iload hx hb d_MO_firstWrong_268 (lv_at hl 6 rfl) ?_
                            exact e_i hx hb hr hlk hC hP hS d_MO_firstWrong_270 ⟨by rw [as_bad hlk0 c_110 (show auBad (fr :: r) o = true from (by exfalso; rw [c_239] at c_256; exact absurd c_256 (by decide)))] at hA2; exact hA2, hK⟩
                  · refine lv_aload_n hx hb d_MO_firstWrong_227 rfl (lv_at hl 2 rfl) ?_
                    refine lv_iconst (v := 3) hx hb d_MO_firstWrong_228 (by decide) ?_
                    refine r_i hC hS (r_runV (np := 1) (As := [.int 3]) (rest := []) hx hb hml hC hP hS (by decide) rfl rfl (m_MO_inside l G X (r.length + 1) (by omega) hD 3) l_MO_65 im_MO_inside se_MO_inside in_MO c_MO_inside_in (by decide +kernel) ⟨by simp only [rmF]; omega, by simp only [rmF]; omega⟩ rfl hl.1 (Nat.le_of_ble_eq_true rfl) d_MO_firstWrong_229 ⟨Nat.le_refl _, Nat.le_refl _⟩) (fun r_229 S_229 H locs hw hP hS => ?_)
                    obtain ⟨rfl, hSe⟩ := hw
                    rw [hSe] at hP
                    refine lv_if_eq (tgt := 268) hx hb d_MO_firstWrong_232 (by decide) (fun c_232 => ?_) (fun c_232 => ?_)
                    · have c_232 := b2i_f c_232
                      have c_232 := (hR.has _).symm.trans c_232
                      refine lv_iload hx hb d_MO_firstWrong_268 (lv_at hl 6 rfl) ?_
                      exact e_i hx hb hr hlk hC hP hS d_MO_firstWrong_270 ⟨by rw [as_bad hlk0 c_110 (show auBad (fr :: r) o = true from (by rw [auBad, show decide (o = 16) = false from decide_eq_false c_205, show decide (o = 17) = false from decide_eq_false c_212, show decide (o = 4) = false from decide_eq_false c_218, show decide (o = 5) = true from decide_eq_true c_224, c_232] <;> rfl))] at hA2; exact hA2, hK⟩
                    · have c_232 := b2i_t c_232
                      have c_232 := (hR.has _).symm.trans c_232
                      refine lv_iload hx hb d_MO_firstWrong_235 (lv_at hl 1 rfl) ?_
                      refine lv_bipush (v := 8) hx hb d_MO_firstWrong_237 (by decide) ?_
                      refine lv_icmp_ne (tgt := 251) hx hb d_MO_firstWrong_239 (by decide) (fun c_239 => ?_) (fun c_239 => ?_)
                      · refine lv_iload hx hb d_MO_firstWrong_251 (lv_at hl 1 rfl) ?_
                        refine r_i hC hS (r_runS (np := 1) (As := [.int o]) (rest := []) hx hb hml hC hP hS (m_MO_opens l G X o) l_MO_69 st_MO_opens in_MO c_MO_opens_in (by decide +kernel) ⟨by simp only [rmF]; omega, by simp only [rmF]; omega⟩ rfl hl.1 (Nat.le_of_ble_eq_true rfl) d_MO_firstWrong_253 ⟨Nat.le_refl _, Nat.le_refl _⟩) (fun r_253 S_253 H locs hw hP hS => ?_)
                        obtain ⟨rfl, hSe⟩ := hw
                        rw [hSe] at hP
                        refine lv_if_eq (tgt := 271) hx hb d_MO_firstWrong_256 (by decide) (fun c_256 => ?_) (fun c_256 => ?_)
                        · have c_256 := b2i_f c_256
                          refine lv_iload hx hb d_MO_firstWrong_271 (lv_at hl 1 rfl) ?_
                          refine r_i hC hS (r_runS (np := 1) (As := [.int o]) (rest := []) hx hb hml hC hP hS (m_MO_opens l G X o) l_MO_69 st_MO_opens in_MO c_MO_opens_in (by decide +kernel) ⟨by simp only [rmF]; omega, by simp only [rmF]; omega⟩ rfl hl.1 (Nat.le_of_ble_eq_true rfl) d_MO_firstWrong_273 ⟨Nat.le_refl _, Nat.le_refl _⟩) (fun r_273 S_273 H locs hw hP hS => ?_)
                          obtain ⟨rfl, hSe⟩ := hw
                          rw [hSe] at hP
                          refine lv_if_eq (tgt := 298) hx hb d_MO_firstWrong_276 (by decide) (fun c_276 => ?_) (fun c_276 => ?_)
                          · have c_276 := b2i_f c_276
                            refine lv_iinc (v := nI (i + 1)) (lv' := [(4, .int (nI (i + 1))), (6, .int a), (5, .int o), (0, .ref (gA G 44)), (1, .int (nI p)), (2, .int du), (3, .int le)]) hx hb d_MO_firstWrong_298 hl (k := 6) rfl (nI_1 _) (by decide) rfl (fun ls hl => ?_)
                            refine lv_goto (tgt := 19) hx hb d_MO_firstWrong_301 (by decide) ?_
                            exact ih (i + 1) _ (fr :: r) 0 _ _ (by omega) (by omega) (by rw [c_69]; rfl) (fun h => absurd rfl h) hR hD hL hK (Or.inl rfl) (fun h => absurd rfl h) (fun h => absurd h (by simp)) hbk ⟨_, by rw [as_on hlk0 c_110 (show auBad (fr :: r) o = false from (by rw [auBad, show decide (o = 16) = false from decide_eq_false c_205, show decide (o = 17) = false from decide_eq_false c_212, show decide (o = 4) = false from decide_eq_false c_218, show decide (o = 5) = true from decide_eq_true c_224, c_232, show decide (o = 8) = false from decide_eq_false c_239, c_256] <;> rfl)) c_276] at hA2; exact hA2⟩ _ _ _ hP hS (lv_sub hl [3, 4, 5, 6, 0] rfl)
                          · have c_276 := b2i_t c_276
                            refine lv_aload_n hx hb d_MO_firstWrong_279 rfl (lv_at hl 2 rfl) ?_
                            refine lv_iload hx hb d_MO_firstWrong_280 (lv_at hl 1 rfl) ?_
                            refine lv_iload hx hb d_MO_firstWrong_282 (lv_at hl 1 rfl) ?_
                            refine lv_bipush (v := 9) hx hb d_MO_firstWrong_284 (by decide) ?_
                            refine lv_icmp_ne (tgt := 294) hx hb d_MO_firstWrong_286 (by decide) (fun c_286 => ?_) (fun c_286 => ?_)
                            · refine lv_iconst (v := 0) hx hb d_MO_firstWrong_294 (by decide) ?_
                              refine r_v hC hS (r_runV (np := 2) (As := [.int o, .int 0]) (rest := []) hx hb hml hC hP hS (by decide) rfl rfl (m_MO_openBlock l G X (r.length + 1) (by omega) hD o 0) l_MO_61 im_MO_openBlock se_MO_openBlock in_MO c_MO_openBlock_in (by decide +kernel) ⟨by simp only [rmF]; omega, by simp only [rmF]; omega⟩ rfl hl.1 (Nat.le_of_ble_eq_true rfl) d_MO_firstWrong_295 ⟨Nat.le_refl _, Nat.le_refl _⟩) (fun S_295 H locs hw hP hS => ?_)
                              rw [hw] at hP
                              refine lv_iinc (v := nI (i + 1)) (lv' := [(4, .int (nI (i + 1))), (6, .int a), (5, .int o), (0, .ref (gA G 44)), (1, .int (nI p)), (2, .int du), (3, .int le)]) hx hb d_MO_firstWrong_298 hl (k := 6) rfl (nI_1 _) (by decide) rfl (fun ls hl => ?_)
                              refine lv_goto (tgt := 19) hx hb d_MO_firstWrong_301 (by decide) ?_
                              exact ih (i + 1) _ ((o, 0, nI i) :: fr :: r) 0 _ _ (by omega) (by omega) (by rw [c_69]; rfl) (fun h => absurd rfl h) (hR.push _ _ _) (moOpen_8 _ _ _ _) (by have h6 : ¬ r.length + 1 = 6 := (by rw [c_256] at c_276; exact absurd c_276 (by decide)); simp only [List.length_cons]; omega) (hK.psh _ _ _) (Or.inl rfl) (fun h => absurd rfl h) (fun h => absurd h (by simp)) ⟨hbk, Or.inl rfl, fun h => absurd h (by simp)⟩ ⟨_, by rw [as_push hlk0 c_110 (show auBad (fr :: r) o = false from (by rw [auBad, show decide (o = 16) = false from decide_eq_false c_205, show decide (o = 17) = false from decide_eq_false c_212, show decide (o = 4) = false from decide_eq_false c_218, show decide (o = 5) = true from decide_eq_true c_224, c_232, show decide (o = 8) = false from decide_eq_false c_239, c_256] <;> rfl)) c_276, if_neg c_286] at hA2; exact hA2⟩ _ _ _ hP hS (lv_sub hl [3, 4, 5, 6, 0] rfl)
                            · refine lv_iload hx hb d_MO_firstWrong_289 (lv_at hl 0 rfl) ?_
                              refine lv_goto (tgt := 295) hx hb d_MO_firstWrong_291 (by decide) ?_
                              refine r_v hC hS (r_runV (np := 2) (As := [.int o, .int a]) (rest := []) hx hb hml hC hP hS (by decide) rfl rfl (m_MO_openBlock l G X (r.length + 1) (by omega) hD o a) l_MO_61 im_MO_openBlock se_MO_openBlock in_MO c_MO_openBlock_in (by decide +kernel) ⟨by simp only [rmF]; omega, by simp only [rmF]; omega⟩ rfl hl.1 (Nat.le_of_ble_eq_true rfl) d_MO_firstWrong_295 ⟨Nat.le_refl _, Nat.le_refl _⟩) (fun S_295 H locs hw hP hS => ?_)
                              rw [hw] at hP
                              refine lv_iinc (v := nI (i + 1)) (lv' := [(4, .int (nI (i + 1))), (6, .int a), (5, .int o), (0, .ref (gA G 44)), (1, .int (nI p)), (2, .int du), (3, .int le)]) hx hb d_MO_firstWrong_298 hl (k := 6) rfl (nI_1 _) (by decide) rfl (fun ls hl => ?_)
                              refine lv_goto (tgt := 19) hx hb d_MO_firstWrong_301 (by decide) ?_
                              exact ih (i + 1) _ ((o, a, nI i) :: fr :: r) 0 _ _ (by omega) (by omega) (by rw [c_69]; rfl) (fun h => absurd rfl h) (hR.push _ _ _) (moOpen_8 _ _ _ _) (by have h6 : ¬ r.length + 1 = 6 := (by rw [c_256] at c_276; exact absurd c_276 (by decide)); simp only [List.length_cons]; omega) (hK.psh _ _ _) (Or.inl rfl) (fun h => absurd rfl h) (fun h => absurd h (by simp)) ⟨hbk, (ha ▸ htok i (by omega) (ho ▸ c_286)), fun h => absurd h (by simp)⟩ ⟨_, by rw [as_push hlk0 c_110 (show auBad (fr :: r) o = false from (by rw [auBad, show decide (o = 16) = false from decide_eq_false c_205, show decide (o = 17) = false from decide_eq_false c_212, show decide (o = 4) = false from decide_eq_false c_218, show decide (o = 5) = true from decide_eq_true c_224, c_232, show decide (o = 8) = false from decide_eq_false c_239, c_256] <;> rfl)) c_276, if_pos c_286] at hA2; exact hA2⟩ _ _ _ hP hS (lv_sub hl [3, 4, 5, 6, 0] rfl)
                        · have c_256 := b2i_t c_256
                          refine lv_aload_n hx hb d_MO_firstWrong_259 rfl (lv_at hl 2 rfl) ?_
                          refine r_get hx hb hC hP i_MO (44) (by decide) rfl rfl 8 (by decide) l_MO_58 rfl d_MO_firstWrong_260 ?_
                          rw [show X 44 8 = nI (r.length + 1) from hD]
                          refine lv_bipush (v := 6) hx hb d_MO_firstWrong_263 (by decide) ?_
                          refine lv_icmp_ne (tgt := 271) hx hb d_MO_firstWrong_265 (by decide) (fun c_265 => ?_) (fun c_265 => ?_)
                          · have c_265 : ¬ r.length + 1 = 6 := fun h => c_265 ((q_eq (a := r.length + 1) (b := 6) rfl rfl (by omega) (by omega)).mpr h)
                            refine lv_iload hx hb d_MO_firstWrong_271 (lv_at hl 1 rfl) ?_
                            refine r_i hC hS (r_runS (np := 1) (As := [.int o]) (rest := []) hx hb hml hC hP hS (m_MO_opens l G X o) l_MO_69 st_MO_opens in_MO c_MO_opens_in (by decide +kernel) ⟨by simp only [rmF]; omega, by simp only [rmF]; omega⟩ rfl hl.1 (Nat.le_of_ble_eq_true rfl) d_MO_firstWrong_273 ⟨Nat.le_refl _, Nat.le_refl _⟩) (fun r_273 S_273 H locs hw hP hS => ?_)
                            obtain ⟨rfl, hSe⟩ := hw
                            rw [hSe] at hP
                            refine lv_if_eq (tgt := 298) hx hb d_MO_firstWrong_276 (by decide) (fun c_276 => ?_) (fun c_276 => ?_)
                            · have c_276 := b2i_f c_276
                              refine lv_iinc (v := nI (i + 1)) (lv' := [(4, .int (nI (i + 1))), (6, .int a), (5, .int o), (0, .ref (gA G 44)), (1, .int (nI p)), (2, .int du), (3, .int le)]) hx hb d_MO_firstWrong_298 hl (k := 6) rfl (nI_1 _) (by decide) rfl (fun ls hl => ?_)
                              refine lv_goto (tgt := 19) hx hb d_MO_firstWrong_301 (by decide) ?_
                              exact ih (i + 1) _ (fr :: r) 0 _ _ (by omega) (by omega) (by rw [c_69]; rfl) (fun h => absurd rfl h) hR hD hL hK (Or.inl rfl) (fun h => absurd rfl h) (fun h => absurd h (by simp)) hbk ⟨_, by rw [as_on hlk0 c_110 (show auBad (fr :: r) o = false from (by exfalso; rw [c_224] at c_256; exact absurd c_256 (by decide))) c_276] at hA2; exact hA2⟩ _ _ _ hP hS (lv_sub hl [3, 4, 5, 6, 0] rfl)
                            · have c_276 := b2i_t c_276
                              refine lv_aload_n hx hb d_MO_firstWrong_279 rfl (lv_at hl 2 rfl) ?_
                              refine lv_iload hx hb d_MO_firstWrong_280 (lv_at hl 1 rfl) ?_
                              refine lv_iload hx hb d_MO_firstWrong_282 (lv_at hl 1 rfl) ?_
                              refine lv_bipush (v := 9) hx hb d_MO_firstWrong_284 (by decide) ?_
                              refine lv_icmp_ne (tgt := 294) hx hb d_MO_firstWrong_286 (by decide) (fun c_286 => ?_) (fun c_286 => ?_)
                              · refine lv_iconst (v := 0) hx hb d_MO_firstWrong_294 (by decide) ?_
                                refine r_v hC hS (r_runV (np := 2) (As := [.int o, .int 0]) (rest := []) hx hb hml hC hP hS (by decide) rfl rfl (m_MO_openBlock l G X (r.length + 1) (by omega) hD o 0) l_MO_61 im_MO_openBlock se_MO_openBlock in_MO c_MO_openBlock_in (by decide +kernel) ⟨by simp only [rmF]; omega, by simp only [rmF]; omega⟩ rfl hl.1 (Nat.le_of_ble_eq_true rfl) d_MO_firstWrong_295 ⟨Nat.le_refl _, Nat.le_refl _⟩) (fun S_295 H locs hw hP hS => ?_)
                                rw [hw] at hP
                                refine lv_iinc (v := nI (i + 1)) (lv' := [(4, .int (nI (i + 1))), (6, .int a), (5, .int o), (0, .ref (gA G 44)), (1, .int (nI p)), (2, .int du), (3, .int le)]) hx hb d_MO_firstWrong_298 hl (k := 6) rfl (nI_1 _) (by decide) rfl (fun ls hl => ?_)
                                refine lv_goto (tgt := 19) hx hb d_MO_firstWrong_301 (by decide) ?_
                                exact ih (i + 1) _ ((o, 0, nI i) :: fr :: r) 0 _ _ (by omega) (by omega) (by rw [c_69]; rfl) (fun h => absurd rfl h) (hR.push _ _ _) (moOpen_8 _ _ _ _) (by have h6 : ¬ r.length + 1 = 6 := c_265; simp only [List.length_cons]; omega) (hK.psh _ _ _) (Or.inl rfl) (fun h => absurd rfl h) (fun h => absurd h (by simp)) ⟨hbk, Or.inl rfl, fun h => absurd h (by simp)⟩ ⟨_, by rw [as_push hlk0 c_110 (show auBad (fr :: r) o = false from (by exfalso; rw [c_224] at c_256; exact absurd c_256 (by decide))) c_276, if_neg c_286] at hA2; exact hA2⟩ _ _ _ hP hS (lv_sub hl [3, 4, 5, 6, 0] rfl)
                              · refine lv_iload hx hb d_MO_firstWrong_289 (lv_at hl 0 rfl) ?_
                                refine lv_goto (tgt := 295) hx hb d_MO_firstWrong_291 (by decide) ?_
                                refine r_v hC hS (r_runV (np := 2) (As := [.int o, .int a]) (rest := []) hx hb hml hC hP hS (by decide) rfl rfl (m_MO_openBlock l G X (r.length + 1) (by omega) hD o a) l_MO_61 im_MO_openBlock se_MO_openBlock in_MO c_MO_openBlock_in (by decide +kernel) ⟨by simp only [rmF]; omega, by simp only [rmF]; omega⟩ rfl hl.1 (Nat.le_of_ble_eq_true rfl) d_MO_firstWrong_295 ⟨Nat.le_refl _, Nat.le_refl _⟩) (fun S_295 H locs hw hP hS => ?_)
                                rw [hw] at hP
                                refine lv_iinc (v := nI (i + 1)) (lv' := [(4, .int (nI (i + 1))), (6, .int a), (5, .int o), (0, .ref (gA G 44)), (1, .int (nI p)), (2, .int du), (3, .int le)]) hx hb d_MO_firstWrong_298 hl (k := 6) rfl (nI_1 _) (by decide) rfl (fun ls hl => ?_)
                                refine lv_goto (tgt := 19) hx hb d_MO_firstWrong_301 (by decide) ?_
                                exact ih (i + 1) _ ((o, a, nI i) :: fr :: r) 0 _ _ (by omega) (by omega) (by rw [c_69]; rfl) (fun h => absurd rfl h) (hR.push _ _ _) (moOpen_8 _ _ _ _) (by have h6 : ¬ r.length + 1 = 6 := c_265; simp only [List.length_cons]; omega) (hK.psh _ _ _) (Or.inl rfl) (fun h => absurd rfl h) (fun h => absurd h (by simp)) ⟨hbk, (ha ▸ htok i (by omega) (ho ▸ c_286)), fun h => absurd h (by simp)⟩ ⟨_, by rw [as_push hlk0 c_110 (show auBad (fr :: r) o = false from (by exfalso; rw [c_224] at c_256; exact absurd c_256 (by decide))) c_276, if_pos c_286] at hA2; exact hA2⟩ _ _ _ hP hS (lv_sub hl [3, 4, 5, 6, 0] rfl)
                          · have c_265 : r.length + 1 = 6 := (q_eq (a := r.length + 1) (b := 6) rfl rfl (by omega) (by omega)).mp c_265
                            refine lv_iload hx hb d_MO_firstWrong_268 (lv_at hl 6 rfl) ?_
                            exact e_i hx hb hr hlk hC hP hS d_MO_firstWrong_270 ⟨by rw [as_bad hlk0 c_110 (show auBad (fr :: r) o = true from (by exfalso; rw [c_224] at c_256; exact absurd c_256 (by decide)))] at hA2; exact hA2, hK⟩
                      · refine lv_aload_n hx hb d_MO_firstWrong_242 rfl (lv_at hl 2 rfl) ?_
                        refine lv_bipush (v := 16) hx hb d_MO_firstWrong_243 (by decide) ?_
                        refine r_i hC hS (r_runV (np := 1) (As := [.int 16]) (rest := []) hx hb hml hC hP hS (by decide) rfl rfl (m_MO_inside l G X (r.length + 1) (by omega) hD 16) l_MO_65 im_MO_inside se_MO_inside in_MO c_MO_inside_in (by decide +kernel) ⟨by simp only [rmF]; omega, by simp only [rmF]; omega⟩ rfl hl.1 (Nat.le_of_ble_eq_true rfl) d_MO_firstWrong_245 ⟨Nat.le_refl _, Nat.le_refl _⟩) (fun r_245 S_245 H locs hw hP hS => ?_)
                        obtain ⟨rfl, hSe⟩ := hw
                        rw [hSe] at hP
                        refine lv_if_eq (tgt := 268) hx hb d_MO_firstWrong_248 (by decide) (fun c_248 => ?_) (fun c_248 => ?_)
                        · have c_248 := b2i_f c_248
                          have c_248 := (hR.has _).symm.trans c_248
                          refine lv_iload hx hb d_MO_firstWrong_268 (lv_at hl 6 rfl) ?_
                          exact e_i hx hb hr hlk hC hP hS d_MO_firstWrong_270 ⟨by rw [as_bad hlk0 c_110 (show auBad (fr :: r) o = true from (by exfalso; rw [c_224] at c_239; exact absurd c_239 (by decide)))] at hA2; exact hA2, hK⟩
                        · have c_248 := b2i_t c_248
                          have c_248 := (hR.has _).symm.trans c_248
                          refine lv_iload hx hb d_MO_firstWrong_251 (lv_at hl 1 rfl) ?_
                          refine r_i hC hS (r_runS (np := 1) (As := [.int o]) (rest := []) hx hb hml hC hP hS (m_MO_opens l G X o) l_MO_69 st_MO_opens in_MO c_MO_opens_in (by decide +kernel) ⟨by simp only [rmF]; omega, by simp only [rmF]; omega⟩ rfl hl.1 (Nat.le_of_ble_eq_true rfl) d_MO_firstWrong_253 ⟨Nat.le_refl _, Nat.le_refl _⟩) (fun r_253 S_253 H locs hw hP hS => ?_)
                          obtain ⟨rfl, hSe⟩ := hw
                          rw [hSe] at hP
                          refine lv_if_eq (tgt := 271) hx hb d_MO_firstWrong_256 (by decide) (fun c_256 => ?_) (fun c_256 => ?_)
                          · have c_256 := b2i_f c_256
                            refine lv_iload hx hb d_MO_firstWrong_271 (lv_at hl 1 rfl) ?_
                            refine r_i hC hS (r_runS (np := 1) (As := [.int o]) (rest := []) hx hb hml hC hP hS (m_MO_opens l G X o) l_MO_69 st_MO_opens in_MO c_MO_opens_in (by decide +kernel) ⟨by simp only [rmF]; omega, by simp only [rmF]; omega⟩ rfl hl.1 (Nat.le_of_ble_eq_true rfl) d_MO_firstWrong_273 ⟨Nat.le_refl _, Nat.le_refl _⟩) (fun r_273 S_273 H locs hw hP hS => ?_)
                            obtain ⟨rfl, hSe⟩ := hw
                            rw [hSe] at hP
                            refine lv_if_eq (tgt := 298) hx hb d_MO_firstWrong_276 (by decide) (fun c_276 => ?_) (fun c_276 => ?_)
                            · have c_276 := b2i_f c_276
                              refine lv_iinc (v := nI (i + 1)) (lv' := [(4, .int (nI (i + 1))), (6, .int a), (5, .int o), (0, .ref (gA G 44)), (1, .int (nI p)), (2, .int du), (3, .int le)]) hx hb d_MO_firstWrong_298 hl (k := 6) rfl (nI_1 _) (by decide) rfl (fun ls hl => ?_)
                              refine lv_goto (tgt := 19) hx hb d_MO_firstWrong_301 (by decide) ?_
                              exact ih (i + 1) _ (fr :: r) 0 _ _ (by omega) (by omega) (by rw [c_69]; rfl) (fun h => absurd rfl h) hR hD hL hK (Or.inl rfl) (fun h => absurd rfl h) (fun h => absurd h (by simp)) hbk ⟨_, by rw [as_on hlk0 c_110 (show auBad (fr :: r) o = false from (by exfalso; rw [c_224] at c_239; exact absurd c_239 (by decide))) c_276] at hA2; exact hA2⟩ _ _ _ hP hS (lv_sub hl [3, 4, 5, 6, 0] rfl)
                            · have c_276 := b2i_t c_276
                              refine lv_aload_n hx hb d_MO_firstWrong_279 rfl (lv_at hl 2 rfl) ?_
                              refine lv_iload hx hb d_MO_firstWrong_280 (lv_at hl 1 rfl) ?_
                              refine lv_iload hx hb d_MO_firstWrong_282 (lv_at hl 1 rfl) ?_
                              refine lv_bipush (v := 9) hx hb d_MO_firstWrong_284 (by decide) ?_
                              refine lv_icmp_ne (tgt := 294) hx hb d_MO_firstWrong_286 (by decide) (fun c_286 => ?_) (fun c_286 => ?_)
                              · refine lv_iconst (v := 0) hx hb d_MO_firstWrong_294 (by decide) ?_
                                refine r_v hC hS (r_runV (np := 2) (As := [.int o, .int 0]) (rest := []) hx hb hml hC hP hS (by decide) rfl rfl (m_MO_openBlock l G X (r.length + 1) (by omega) hD o 0) l_MO_61 im_MO_openBlock se_MO_openBlock in_MO c_MO_openBlock_in (by decide +kernel) ⟨by simp only [rmF]; omega, by simp only [rmF]; omega⟩ rfl hl.1 (Nat.le_of_ble_eq_true rfl) d_MO_firstWrong_295 ⟨Nat.le_refl _, Nat.le_refl _⟩) (fun S_295 H locs hw hP hS => ?_)
                                rw [hw] at hP
                                refine lv_iinc (v := nI (i + 1)) (lv' := [(4, .int (nI (i + 1))), (6, .int a), (5, .int o), (0, .ref (gA G 44)), (1, .int (nI p)), (2, .int du), (3, .int le)]) hx hb d_MO_firstWrong_298 hl (k := 6) rfl (nI_1 _) (by decide) rfl (fun ls hl => ?_)
                                refine lv_goto (tgt := 19) hx hb d_MO_firstWrong_301 (by decide) ?_
                                exact ih (i + 1) _ ((o, 0, nI i) :: fr :: r) 0 _ _ (by omega) (by omega) (by rw [c_69]; rfl) (fun h => absurd rfl h) (hR.push _ _ _) (moOpen_8 _ _ _ _) (by have h6 : ¬ r.length + 1 = 6 := (by rw [c_256] at c_276; exact absurd c_276 (by decide)); simp only [List.length_cons]; omega) (hK.psh _ _ _) (Or.inl rfl) (fun h => absurd rfl h) (fun h => absurd h (by simp)) ⟨hbk, Or.inl rfl, fun h => absurd h (by simp)⟩ ⟨_, by rw [as_push hlk0 c_110 (show auBad (fr :: r) o = false from (by exfalso; rw [c_224] at c_239; exact absurd c_239 (by decide))) c_276, if_neg c_286] at hA2; exact hA2⟩ _ _ _ hP hS (lv_sub hl [3, 4, 5, 6, 0] rfl)
                              · refine lv_iload hx hb d_MO_firstWrong_289 (lv_at hl 0 rfl) ?_
                                refine lv_goto (tgt := 295) hx hb d_MO_firstWrong_291 (by decide) ?_
                                refine r_v hC hS (r_runV (np := 2) (As := [.int o, .int a]) (rest := []) hx hb hml hC hP hS (by decide) rfl rfl (m_MO_openBlock l G X (r.length + 1) (by omega) hD o a) l_MO_61 im_MO_openBlock se_MO_openBlock in_MO c_MO_openBlock_in (by decide +kernel) ⟨by simp only [rmF]; omega, by simp only [rmF]; omega⟩ rfl hl.1 (Nat.le_of_ble_eq_true rfl) d_MO_firstWrong_295 ⟨Nat.le_refl _, Nat.le_refl _⟩) (fun S_295 H locs hw hP hS => ?_)
                                rw [hw] at hP
                                refine lv_iinc (v := nI (i + 1)) (lv' := [(4, .int (nI (i + 1))), (6, .int a), (5, .int o), (0, .ref (gA G 44)), (1, .int (nI p)), (2, .int du), (3, .int le)]) hx hb d_MO_firstWrong_298 hl (k := 6) rfl (nI_1 _) (by decide) rfl (fun ls hl => ?_)
                                refine lv_goto (tgt := 19) hx hb d_MO_firstWrong_301 (by decide) ?_
                                exact ih (i + 1) _ ((o, a, nI i) :: fr :: r) 0 _ _ (by omega) (by omega) (by rw [c_69]; rfl) (fun h => absurd rfl h) (hR.push _ _ _) (moOpen_8 _ _ _ _) (by have h6 : ¬ r.length + 1 = 6 := (by rw [c_256] at c_276; exact absurd c_276 (by decide)); simp only [List.length_cons]; omega) (hK.psh _ _ _) (Or.inl rfl) (fun h => absurd rfl h) (fun h => absurd h (by simp)) ⟨hbk, (ha ▸ htok i (by omega) (ho ▸ c_286)), fun h => absurd h (by simp)⟩ ⟨_, by rw [as_push hlk0 c_110 (show auBad (fr :: r) o = false from (by exfalso; rw [c_224] at c_239; exact absurd c_239 (by decide))) c_276, if_pos c_286] at hA2; exact hA2⟩ _ _ _ hP hS (lv_sub hl [3, 4, 5, 6, 0] rfl)
                          · have c_256 := b2i_t c_256
                            refine lv_aload_n hx hb d_MO_firstWrong_259 rfl (lv_at hl 2 rfl) ?_
                            refine r_get hx hb hC hP i_MO (44) (by decide) rfl rfl 8 (by decide) l_MO_58 rfl d_MO_firstWrong_260 ?_
                            rw [show X 44 8 = nI (r.length + 1) from hD]
                            refine lv_bipush (v := 6) hx hb d_MO_firstWrong_263 (by decide) ?_
                            refine lv_icmp_ne (tgt := 271) hx hb d_MO_firstWrong_265 (by decide) (fun c_265 => ?_) (fun c_265 => ?_)
                            · have c_265 : ¬ r.length + 1 = 6 := fun h => c_265 ((q_eq (a := r.length + 1) (b := 6) rfl rfl (by omega) (by omega)).mpr h)
                              refine lv_iload hx hb d_MO_firstWrong_271 (lv_at hl 1 rfl) ?_
                              refine r_i hC hS (r_runS (np := 1) (As := [.int o]) (rest := []) hx hb hml hC hP hS (m_MO_opens l G X o) l_MO_69 st_MO_opens in_MO c_MO_opens_in (by decide +kernel) ⟨by simp only [rmF]; omega, by simp only [rmF]; omega⟩ rfl hl.1 (Nat.le_of_ble_eq_true rfl) d_MO_firstWrong_273 ⟨Nat.le_refl _, Nat.le_refl _⟩) (fun r_273 S_273 H locs hw hP hS => ?_)
                              obtain ⟨rfl, hSe⟩ := hw
                              rw [hSe] at hP
                              refine lv_if_eq (tgt := 298) hx hb d_MO_firstWrong_276 (by decide) (fun c_276 => ?_) (fun c_276 => ?_)
                              · have c_276 := b2i_f c_276
                                refine lv_iinc (v := nI (i + 1)) (lv' := [(4, .int (nI (i + 1))), (6, .int a), (5, .int o), (0, .ref (gA G 44)), (1, .int (nI p)), (2, .int du), (3, .int le)]) hx hb d_MO_firstWrong_298 hl (k := 6) rfl (nI_1 _) (by decide) rfl (fun ls hl => ?_)
                                refine lv_goto (tgt := 19) hx hb d_MO_firstWrong_301 (by decide) ?_
                                exact ih (i + 1) _ (fr :: r) 0 _ _ (by omega) (by omega) (by rw [c_69]; rfl) (fun h => absurd rfl h) hR hD hL hK (Or.inl rfl) (fun h => absurd rfl h) (fun h => absurd h (by simp)) hbk ⟨_, by rw [as_on hlk0 c_110 (show auBad (fr :: r) o = false from (by exfalso; rw [c_224] at c_239; exact absurd c_239 (by decide))) c_276] at hA2; exact hA2⟩ _ _ _ hP hS (lv_sub hl [3, 4, 5, 6, 0] rfl)
                              · have c_276 := b2i_t c_276
                                refine lv_aload_n hx hb d_MO_firstWrong_279 rfl (lv_at hl 2 rfl) ?_
                                refine lv_iload hx hb d_MO_firstWrong_280 (lv_at hl 1 rfl) ?_
                                refine lv_iload hx hb d_MO_firstWrong_282 (lv_at hl 1 rfl) ?_
                                refine lv_bipush (v := 9) hx hb d_MO_firstWrong_284 (by decide) ?_
                                refine lv_icmp_ne (tgt := 294) hx hb d_MO_firstWrong_286 (by decide) (fun c_286 => ?_) (fun c_286 => ?_)
                                · refine lv_iconst (v := 0) hx hb d_MO_firstWrong_294 (by decide) ?_
                                  refine r_v hC hS (r_runV (np := 2) (As := [.int o, .int 0]) (rest := []) hx hb hml hC hP hS (by decide) rfl rfl (m_MO_openBlock l G X (r.length + 1) (by omega) hD o 0) l_MO_61 im_MO_openBlock se_MO_openBlock in_MO c_MO_openBlock_in (by decide +kernel) ⟨by simp only [rmF]; omega, by simp only [rmF]; omega⟩ rfl hl.1 (Nat.le_of_ble_eq_true rfl) d_MO_firstWrong_295 ⟨Nat.le_refl _, Nat.le_refl _⟩) (fun S_295 H locs hw hP hS => ?_)
                                  rw [hw] at hP
                                  refine lv_iinc (v := nI (i + 1)) (lv' := [(4, .int (nI (i + 1))), (6, .int a), (5, .int o), (0, .ref (gA G 44)), (1, .int (nI p)), (2, .int du), (3, .int le)]) hx hb d_MO_firstWrong_298 hl (k := 6) rfl (nI_1 _) (by decide) rfl (fun ls hl => ?_)
                                  refine lv_goto (tgt := 19) hx hb d_MO_firstWrong_301 (by decide) ?_
                                  exact ih (i + 1) _ ((o, 0, nI i) :: fr :: r) 0 _ _ (by omega) (by omega) (by rw [c_69]; rfl) (fun h => absurd rfl h) (hR.push _ _ _) (moOpen_8 _ _ _ _) (by have h6 : ¬ r.length + 1 = 6 := c_265; simp only [List.length_cons]; omega) (hK.psh _ _ _) (Or.inl rfl) (fun h => absurd rfl h) (fun h => absurd h (by simp)) ⟨hbk, Or.inl rfl, fun h => absurd h (by simp)⟩ ⟨_, by rw [as_push hlk0 c_110 (show auBad (fr :: r) o = false from (by exfalso; rw [c_224] at c_239; exact absurd c_239 (by decide))) c_276, if_neg c_286] at hA2; exact hA2⟩ _ _ _ hP hS (lv_sub hl [3, 4, 5, 6, 0] rfl)
                                · refine lv_iload hx hb d_MO_firstWrong_289 (lv_at hl 0 rfl) ?_
                                  refine lv_goto (tgt := 295) hx hb d_MO_firstWrong_291 (by decide) ?_
                                  refine r_v hC hS (r_runV (np := 2) (As := [.int o, .int a]) (rest := []) hx hb hml hC hP hS (by decide) rfl rfl (m_MO_openBlock l G X (r.length + 1) (by omega) hD o a) l_MO_61 im_MO_openBlock se_MO_openBlock in_MO c_MO_openBlock_in (by decide +kernel) ⟨by simp only [rmF]; omega, by simp only [rmF]; omega⟩ rfl hl.1 (Nat.le_of_ble_eq_true rfl) d_MO_firstWrong_295 ⟨Nat.le_refl _, Nat.le_refl _⟩) (fun S_295 H locs hw hP hS => ?_)
                                  rw [hw] at hP
                                  refine lv_iinc (v := nI (i + 1)) (lv' := [(4, .int (nI (i + 1))), (6, .int a), (5, .int o), (0, .ref (gA G 44)), (1, .int (nI p)), (2, .int du), (3, .int le)]) hx hb d_MO_firstWrong_298 hl (k := 6) rfl (nI_1 _) (by decide) rfl (fun ls hl => ?_)
                                  refine lv_goto (tgt := 19) hx hb d_MO_firstWrong_301 (by decide) ?_
                                  exact ih (i + 1) _ ((o, a, nI i) :: fr :: r) 0 _ _ (by omega) (by omega) (by rw [c_69]; rfl) (fun h => absurd rfl h) (hR.push _ _ _) (moOpen_8 _ _ _ _) (by have h6 : ¬ r.length + 1 = 6 := c_265; simp only [List.length_cons]; omega) (hK.psh _ _ _) (Or.inl rfl) (fun h => absurd rfl h) (fun h => absurd h (by simp)) ⟨hbk, (ha ▸ htok i (by omega) (ho ▸ c_286)), fun h => absurd h (by simp)⟩ ⟨_, by rw [as_push hlk0 c_110 (show auBad (fr :: r) o = false from (by exfalso; rw [c_224] at c_239; exact absurd c_239 (by decide))) c_276, if_pos c_286] at hA2; exact hA2⟩ _ _ _ hP hS (lv_sub hl [3, 4, 5, 6, 0] rfl)
                            · have c_265 : r.length + 1 = 6 := (q_eq (a := r.length + 1) (b := 6) rfl rfl (by omega) (by omega)).mp c_265
                              refine lv_iload hx hb d_MO_firstWrong_268 (lv_at hl 6 rfl) ?_
                              exact e_i hx hb hr hlk hC hP hS d_MO_firstWrong_270 ⟨by rw [as_bad hlk0 c_110 (show auBad (fr :: r) o = true from (by exfalso; rw [c_224] at c_239; exact absurd c_239 (by decide)))] at hA2; exact hA2, hK⟩
          · refine lv_aload_n hx hb d_MO_firstWrong_113 rfl (lv_at hl 2 rfl) ?_
            refine lv_dup hx hb d_MO_firstWrong_114 rfl ?_
            refine r_get hx hb hC hP i_MO (44) (by decide) rfl rfl 8 (by decide) l_MO_58 rfl d_MO_firstWrong_115 ?_
            rw [show X 44 8 = nI (r.length + 1) from hD]
            refine lv_iconst (v := 1) hx hb d_MO_firstWrong_118 (by decide) ?_
            refine lv_isub hx hb d_MO_firstWrong_119 ?_
            rw [show (nI (r.length + 1)) - 1 = nI r.length from nI_pred _]
            refine r_put hx hb hC hP hS i_MO t_MO t_MO_ok n_MO (44) (by decide) rfl rfl 8 (by decide) l_MO_58 rfl rfl rfl (Nat.le_of_ble_eq_true rfl) d_MO_firstWrong_120 (fun H locs hP hS => ?_)
            refine lv_aload_n hx hb d_MO_firstWrong_123 rfl (lv_at hl 2 rfl) ?_
            refine r_get hx hb hC hP i_MO (44) (by decide) rfl rfl 6 (by decide) l_MO_29 rfl d_MO_firstWrong_124 ?_
            refine lv_aload_n hx hb d_MO_firstWrong_127 rfl (lv_at hl 2 rfl) ?_
            refine r_get hx hb hC hP i_MO (44) (by decide) rfl rfl 8 (by decide) l_MO_58 rfl d_MO_firstWrong_128 ?_
            rw [show (su X 44 8 (nI r.length)) 44 8 = nI r.length from by rw [su_same]]
            refine r_ild hx hb hC hP (50) (by decide) rfl r.length rfl (by omega) (by decide) d_MO_firstWrong_131 ?_
            rw [show (su X 44 8 (nI r.length)) 50 r.length = X 50 r.length from by rw [su_cell _ _ _ (by decide)]]
            rw [show X 50 r.length = fr.2.1 from hR.2.1]
            refine lv_istore_n (lv' := [(3, .int fr.2.1), (6, .int a), (5, .int o), (0, .ref (gA G 44)), (1, .int (nI p)), (2, .int du), (4, .int (nI i))]) hx hb d_MO_firstWrong_132 rfl hl (by decide) rfl (fun ls hl => ?_)
            refine lv_aload_n hx hb d_MO_firstWrong_133 rfl (lv_at hl 3 rfl) ?_
            refine r_get hx hb hC hP i_MO (44) (by decide) rfl rfl 4 (by decide) l_MO_23 rfl d_MO_firstWrong_134 ?_
            refine lv_aload_n hx hb d_MO_firstWrong_137 rfl (lv_at hl 3 rfl) ?_
            refine r_get hx hb hC hP i_MO (44) (by decide) rfl rfl 8 (by decide) l_MO_58 rfl d_MO_firstWrong_138 ?_
            rw [show (su X 44 8 (nI r.length)) 44 8 = nI r.length from by rw [su_same]]
            refine r_ild hx hb hC hP (48) (by decide) rfl r.length rfl (by omega) (by decide) d_MO_firstWrong_141 ?_
            rw [show (su X 44 8 (nI r.length)) 48 r.length = X 48 r.length from by rw [su_cell _ _ _ (by decide)]]
            rw [show X 48 r.length = fr.1 from hR.1]
            refine lv_bipush (v := 9) hx hb d_MO_firstWrong_142 (by decide) ?_
            refine lv_icmp_eq (tgt := 161) hx hb d_MO_firstWrong_144 (by decide) (fun c_144 => ?_) (fun c_144 => ?_)
            · refine lv_iconst (v := 1) hx hb d_MO_firstWrong_161 (by decide) ?_
              refine lv_goto (tgt := 166) hx hb d_MO_firstWrong_162 (by decide) ?_
              refine lv_istore (lv' := [(7, .int 1), (3, .int fr.2.1), (6, .int a), (5, .int o), (0, .ref (gA G 44)), (1, .int (nI p)), (2, .int du), (4, .int (nI i))]) hx hb d_MO_firstWrong_166 hl (by decide) rfl (fun ls hl => ?_)
              refine lv_iload hx hb d_MO_firstWrong_168 (lv_at hl 0 rfl) ?_
              refine lv_if_eq (tgt := 185) hx hb d_MO_firstWrong_170 (by decide) (fun h => absurd h (by decide)) (fun _ => ?_)
              refine lv_iload_n hx hb d_MO_firstWrong_173 rfl (lv_at hl 1 rfl) ?_
              refine lv_iconst (v := 3) hx hb d_MO_firstWrong_174 (by decide) ?_
              refine lv_iand hx hb d_MO_firstWrong_175 ?_
              refine lv_if_le (tgt := 185) hx hb d_MO_firstWrong_176 (by decide) (fun c_176 => ?_) (fun c_176 => ?_)
              · refine lv_iload hx hb d_MO_firstWrong_185 (lv_at hl 0 rfl) ?_
                refine lv_if_eq (tgt := 198) hx hb d_MO_firstWrong_187 (by decide) (fun h => absurd h (by decide)) (fun _ => ?_)
                refine lv_iload_n hx hb d_MO_firstWrong_190 rfl (lv_at hl 1 rfl) ?_
                refine lv_iconst (v := 4) hx hb d_MO_firstWrong_191 (by decide) ?_
                refine lv_icmp_lt (tgt := 198) hx hb d_MO_firstWrong_192 (by decide) (fun c_192 => ?_) (fun c_192 => ?_)
                · refine lv_goto (tgt := 298) hx hb d_MO_firstWrong_198 (by decide) ?_
                  refine lv_iinc (v := nI (i + 1)) (lv' := [(4, .int (nI (i + 1))), (7, .int 1), (3, .int fr.2.1), (6, .int a), (5, .int o), (0, .ref (gA G 44)), (1, .int (nI p)), (2, .int du)]) hx hb d_MO_firstWrong_298 hl (k := 7) rfl (nI_1 _) (by decide) rfl (fun ls hl => ?_)
                  refine lv_goto (tgt := 19) hx hb d_MO_firstWrong_301 (by decide) ?_
                  exact ih (i + 1) _ r fr.2.1 _ _ (by omega) (by omega) (by have h3 : fr.2.1 &&& 3 = 0 := Classical.byContradiction (fun h => absurd ((lkOK_and hbk.2.1).mpr h) (Int32.not_lt.mpr c_176)); have h0 : fr.2.1 = 0 := Classical.byContradiction (fun h => absurd ((lkOK_17 hbk.2.1 h3).mpr h) (Int32.not_le.mpr c_192)); rw [c_69, h0]; rfl) (fun h => rfl) (hR.2.2.mv (fun k hk => ⟨su_k _ _ (by omega), su_k _ _ (by omega)⟩)) (su_same _ _ _ _) (by omega) (hK.pop _) hbk.2.1 (fun _ => by omega) (fun h => absurd (hbk.2.2 h) (by rw [c_144]; decide)) hbk.1 ⟨_, by rw [as_end hlk0 c_110, if_pos (Or.inl c_144)] at hA2; exact hA2⟩ _ _ _ hP hS (lv_sub hl [5, 6, 7, 2, 0] rfl)
                · refine lv_bipush (v := 17) hx hb d_MO_firstWrong_195 (by decide) ?_
                  refine lv_istore_n (lv' := [(2, .int 17), (7, .int 1), (3, .int fr.2.1), (6, .int a), (5, .int o), (0, .ref (gA G 44)), (1, .int (nI p)), (4, .int (nI i))]) hx hb d_MO_firstWrong_197 rfl hl (by decide) rfl (fun ls hl => ?_)
                  refine lv_goto (tgt := 298) hx hb d_MO_firstWrong_198 (by decide) ?_
                  refine lv_iinc (v := nI (i + 1)) (lv' := [(4, .int (nI (i + 1))), (2, .int 17), (7, .int 1), (3, .int fr.2.1), (6, .int a), (5, .int o), (0, .ref (gA G 44)), (1, .int (nI p))]) hx hb d_MO_firstWrong_298 hl (k := 7) rfl (nI_1 _) (by decide) rfl (fun ls hl => ?_)
                  refine lv_goto (tgt := 19) hx hb d_MO_firstWrong_301 (by decide) ?_
                  exact ih (i + 1) _ r fr.2.1 _ _ (by omega) (by omega) (by have h3 : fr.2.1 &&& 3 = 0 := Classical.byContradiction (fun h => absurd ((lkOK_and hbk.2.1).mpr h) (Int32.not_lt.mpr c_176)); rw [lkDue, if_neg ((lkOK_17 hbk.2.1 h3).mp (Int32.not_lt.mp c_192)), if_pos h3]) (fun h => rfl) (hR.2.2.mv (fun k hk => ⟨su_k _ _ (by omega), su_k _ _ (by omega)⟩)) (su_same _ _ _ _) (by omega) (hK.pop _) hbk.2.1 (fun _ => by omega) (fun h => absurd (hbk.2.2 h) (by rw [c_144]; decide)) hbk.1 ⟨_, by rw [as_end hlk0 c_110, if_pos (Or.inl c_144)] at hA2; exact hA2⟩ _ _ _ hP hS (lv_sub hl [6, 7, 1, 3, 0] rfl)
              · refine lv_bipush (v := 16) hx hb d_MO_firstWrong_179 (by decide) ?_
                refine lv_istore_n (lv' := [(2, .int 16), (7, .int 1), (3, .int fr.2.1), (6, .int a), (5, .int o), (0, .ref (gA G 44)), (1, .int (nI p)), (4, .int (nI i))]) hx hb d_MO_firstWrong_181 rfl hl (by decide) rfl (fun ls hl => ?_)
                refine lv_goto (tgt := 198) hx hb d_MO_firstWrong_182 (by decide) ?_
                refine lv_goto (tgt := 298) hx hb d_MO_firstWrong_198 (by decide) ?_
                refine lv_iinc (v := nI (i + 1)) (lv' := [(4, .int (nI (i + 1))), (2, .int 16), (7, .int 1), (3, .int fr.2.1), (6, .int a), (5, .int o), (0, .ref (gA G 44)), (1, .int (nI p))]) hx hb d_MO_firstWrong_298 hl (k := 7) rfl (nI_1 _) (by decide) rfl (fun ls hl => ?_)
                refine lv_goto (tgt := 19) hx hb d_MO_firstWrong_301 (by decide) ?_
                exact ih (i + 1) _ r fr.2.1 _ _ (by omega) (by omega) (by rw [lkDue, if_neg (fun h => (lkOK_and hbk.2.1).mp (Int32.not_le.mp c_176) (by rw [h]; rfl)), if_neg ((lkOK_and hbk.2.1).mp (Int32.not_le.mp c_176))]) (fun h => rfl) (hR.2.2.mv (fun k hk => ⟨su_k _ _ (by omega), su_k _ _ (by omega)⟩)) (su_same _ _ _ _) (by omega) (hK.pop _) hbk.2.1 (fun _ => by omega) (fun h => absurd (hbk.2.2 h) (by rw [c_144]; decide)) hbk.1 ⟨_, by rw [as_end hlk0 c_110, if_pos (Or.inl c_144)] at hA2; exact hA2⟩ _ _ _ hP hS (lv_sub hl [6, 7, 1, 3, 0] rfl)
            · refine lv_aload_n hx hb d_MO_firstWrong_147 rfl (lv_at hl 3 rfl) ?_
              refine r_get hx hb hC hP i_MO (44) (by decide) rfl rfl 4 (by decide) l_MO_23 rfl d_MO_firstWrong_148 ?_
              refine lv_aload_n hx hb d_MO_firstWrong_151 rfl (lv_at hl 3 rfl) ?_
              refine r_get hx hb hC hP i_MO (44) (by decide) rfl rfl 8 (by decide) l_MO_58 rfl d_MO_firstWrong_152 ?_
              rw [show (su X 44 8 (nI r.length)) 44 8 = nI r.length from by rw [su_same]]
              refine r_ild hx hb hC hP (48) (by decide) rfl r.length rfl (by omega) (by decide) d_MO_firstWrong_155 ?_
              rw [show (su X 44 8 (nI r.length)) 48 r.length = X 48 r.length from by rw [su_cell _ _ _ (by decide)]]
              rw [show X 48 r.length = fr.1 from hR.1]
              refine lv_bipush (v := 16) hx hb d_MO_firstWrong_156 (by decide) ?_
              refine lv_icmp_ne (tgt := 165) hx hb d_MO_firstWrong_158 (by decide) (fun c_158 => ?_) (fun c_158 => ?_)
              · refine lv_iconst (v := 0) hx hb d_MO_firstWrong_165 (by decide) ?_
                refine lv_istore (lv' := [(7, .int 0), (3, .int fr.2.1), (6, .int a), (5, .int o), (0, .ref (gA G 44)), (1, .int (nI p)), (2, .int du), (4, .int (nI i))]) hx hb d_MO_firstWrong_166 hl (by decide) rfl (fun ls hl => ?_)
                refine lv_iload hx hb d_MO_firstWrong_168 (lv_at hl 0 rfl) ?_
                refine lv_if_eq (tgt := 185) hx hb d_MO_firstWrong_170 (by decide) (fun _ => ?_) (fun h => absurd h (by decide))
                refine lv_iload hx hb d_MO_firstWrong_185 (lv_at hl 0 rfl) ?_
                refine lv_if_eq (tgt := 198) hx hb d_MO_firstWrong_187 (by decide) (fun _ => ?_) (fun h => absurd h (by decide))
                refine lv_goto (tgt := 298) hx hb d_MO_firstWrong_198 (by decide) ?_
                refine lv_iinc (v := nI (i + 1)) (lv' := [(4, .int (nI (i + 1))), (7, .int 0), (3, .int fr.2.1), (6, .int a), (5, .int o), (0, .ref (gA G 44)), (1, .int (nI p)), (2, .int du)]) hx hb d_MO_firstWrong_298 hl (k := 7) rfl (nI_1 _) (by decide) rfl (fun ls hl => ?_)
                refine lv_goto (tgt := 19) hx hb d_MO_firstWrong_301 (by decide) ?_
                exact ih (i + 1) _ r 0 _ _ (by omega) (by omega) (by rw [c_69]; rfl) (fun h => absurd rfl h) (hR.2.2.mv (fun k hk => ⟨su_k _ _ (by omega), su_k _ _ (by omega)⟩)) (su_same _ _ _ _) (by omega) (hK.pop _) (Or.inl rfl) (fun _ => by omega) (fun _ => rfl) hbk.1 ⟨_, by rw [as_end hlk0 c_110, if_neg (fun h => h.elim c_144 c_158)] at hA2; exact hA2⟩ _ _ _ hP hS (lv_sub hl [5, 6, 7, 2, 0] rfl)
              · refine lv_iconst (v := 1) hx hb d_MO_firstWrong_161 (by decide) ?_
                refine lv_goto (tgt := 166) hx hb d_MO_firstWrong_162 (by decide) ?_
                refine lv_istore (lv' := [(7, .int 1), (3, .int fr.2.1), (6, .int a), (5, .int o), (0, .ref (gA G 44)), (1, .int (nI p)), (2, .int du), (4, .int (nI i))]) hx hb d_MO_firstWrong_166 hl (by decide) rfl (fun ls hl => ?_)
                refine lv_iload hx hb d_MO_firstWrong_168 (lv_at hl 0 rfl) ?_
                refine lv_if_eq (tgt := 185) hx hb d_MO_firstWrong_170 (by decide) (fun h => absurd h (by decide)) (fun _ => ?_)
                refine lv_iload_n hx hb d_MO_firstWrong_173 rfl (lv_at hl 1 rfl) ?_
                refine lv_iconst (v := 3) hx hb d_MO_firstWrong_174 (by decide) ?_
                refine lv_iand hx hb d_MO_firstWrong_175 ?_
                refine lv_if_le (tgt := 185) hx hb d_MO_firstWrong_176 (by decide) (fun c_176 => ?_) (fun c_176 => ?_)
                · refine lv_iload hx hb d_MO_firstWrong_185 (lv_at hl 0 rfl) ?_
                  refine lv_if_eq (tgt := 198) hx hb d_MO_firstWrong_187 (by decide) (fun h => absurd h (by decide)) (fun _ => ?_)
                  refine lv_iload_n hx hb d_MO_firstWrong_190 rfl (lv_at hl 1 rfl) ?_
                  refine lv_iconst (v := 4) hx hb d_MO_firstWrong_191 (by decide) ?_
                  refine lv_icmp_lt (tgt := 198) hx hb d_MO_firstWrong_192 (by decide) (fun c_192 => ?_) (fun c_192 => ?_)
                  · refine lv_goto (tgt := 298) hx hb d_MO_firstWrong_198 (by decide) ?_
                    refine lv_iinc (v := nI (i + 1)) (lv' := [(4, .int (nI (i + 1))), (7, .int 1), (3, .int fr.2.1), (6, .int a), (5, .int o), (0, .ref (gA G 44)), (1, .int (nI p)), (2, .int du)]) hx hb d_MO_firstWrong_298 hl (k := 7) rfl (nI_1 _) (by decide) rfl (fun ls hl => ?_)
                    refine lv_goto (tgt := 19) hx hb d_MO_firstWrong_301 (by decide) ?_
                    exact ih (i + 1) _ r fr.2.1 _ _ (by omega) (by omega) (by have h3 : fr.2.1 &&& 3 = 0 := Classical.byContradiction (fun h => absurd ((lkOK_and hbk.2.1).mpr h) (Int32.not_lt.mpr c_176)); have h0 : fr.2.1 = 0 := Classical.byContradiction (fun h => absurd ((lkOK_17 hbk.2.1 h3).mpr h) (Int32.not_le.mpr c_192)); rw [c_69, h0]; rfl) (fun h => rfl) (hR.2.2.mv (fun k hk => ⟨su_k _ _ (by omega), su_k _ _ (by omega)⟩)) (su_same _ _ _ _) (by omega) (hK.pop _) hbk.2.1 (fun _ => by omega) (fun h => absurd (hbk.2.2 h) (by rw [c_158]; decide)) hbk.1 ⟨_, by rw [as_end hlk0 c_110, if_pos (Or.inr c_158)] at hA2; exact hA2⟩ _ _ _ hP hS (lv_sub hl [5, 6, 7, 2, 0] rfl)
                  · refine lv_bipush (v := 17) hx hb d_MO_firstWrong_195 (by decide) ?_
                    refine lv_istore_n (lv' := [(2, .int 17), (7, .int 1), (3, .int fr.2.1), (6, .int a), (5, .int o), (0, .ref (gA G 44)), (1, .int (nI p)), (4, .int (nI i))]) hx hb d_MO_firstWrong_197 rfl hl (by decide) rfl (fun ls hl => ?_)
                    refine lv_goto (tgt := 298) hx hb d_MO_firstWrong_198 (by decide) ?_
                    refine lv_iinc (v := nI (i + 1)) (lv' := [(4, .int (nI (i + 1))), (2, .int 17), (7, .int 1), (3, .int fr.2.1), (6, .int a), (5, .int o), (0, .ref (gA G 44)), (1, .int (nI p))]) hx hb d_MO_firstWrong_298 hl (k := 7) rfl (nI_1 _) (by decide) rfl (fun ls hl => ?_)
                    refine lv_goto (tgt := 19) hx hb d_MO_firstWrong_301 (by decide) ?_
                    exact ih (i + 1) _ r fr.2.1 _ _ (by omega) (by omega) (by have h3 : fr.2.1 &&& 3 = 0 := Classical.byContradiction (fun h => absurd ((lkOK_and hbk.2.1).mpr h) (Int32.not_lt.mpr c_176)); rw [lkDue, if_neg ((lkOK_17 hbk.2.1 h3).mp (Int32.not_lt.mp c_192)), if_pos h3]) (fun h => rfl) (hR.2.2.mv (fun k hk => ⟨su_k _ _ (by omega), su_k _ _ (by omega)⟩)) (su_same _ _ _ _) (by omega) (hK.pop _) hbk.2.1 (fun _ => by omega) (fun h => absurd (hbk.2.2 h) (by rw [c_158]; decide)) hbk.1 ⟨_, by rw [as_end hlk0 c_110, if_pos (Or.inr c_158)] at hA2; exact hA2⟩ _ _ _ hP hS (lv_sub hl [6, 7, 1, 3, 0] rfl)
                · refine lv_bipush (v := 16) hx hb d_MO_firstWrong_179 (by decide) ?_
                  refine lv_istore_n (lv' := [(2, .int 16), (7, .int 1), (3, .int fr.2.1), (6, .int a), (5, .int o), (0, .ref (gA G 44)), (1, .int (nI p)), (4, .int (nI i))]) hx hb d_MO_firstWrong_181 rfl hl (by decide) rfl (fun ls hl => ?_)
                  refine lv_goto (tgt := 198) hx hb d_MO_firstWrong_182 (by decide) ?_
                  refine lv_goto (tgt := 298) hx hb d_MO_firstWrong_198 (by decide) ?_
                  refine lv_iinc (v := nI (i + 1)) (lv' := [(4, .int (nI (i + 1))), (2, .int 16), (7, .int 1), (3, .int fr.2.1), (6, .int a), (5, .int o), (0, .ref (gA G 44)), (1, .int (nI p))]) hx hb d_MO_firstWrong_298 hl (k := 7) rfl (nI_1 _) (by decide) rfl (fun ls hl => ?_)
                  refine lv_goto (tgt := 19) hx hb d_MO_firstWrong_301 (by decide) ?_
                  exact ih (i + 1) _ r fr.2.1 _ _ (by omega) (by omega) (by rw [lkDue, if_neg (fun h => (lkOK_and hbk.2.1).mp (Int32.not_le.mp c_176) (by rw [h]; rfl)), if_neg ((lkOK_and hbk.2.1).mp (Int32.not_le.mp c_176))]) (fun h => rfl) (hR.2.2.mv (fun k hk => ⟨su_k _ _ (by omega), su_k _ _ (by omega)⟩)) (su_same _ _ _ _) (by omega) (hK.pop _) hbk.2.1 (fun _ => by omega) (fun h => absurd (hbk.2.2 h) (by rw [c_158]; decide)) hbk.1 ⟨_, by rw [as_end hlk0 c_110, if_pos (Or.inr c_158)] at hA2; exact hA2⟩ _ _ _ hP hS (lv_sub hl [6, 7, 1, 3, 0] rfl)
        · have hlk0 : ¬ lk = 0 := fun h => c_69 (hdu.trans (lkDue_0.mpr h))
          refine lv_iload hx hb d_MO_firstWrong_72 (lv_at hl 1 rfl) ?_
          refine lv_iload_n hx hb d_MO_firstWrong_74 rfl (lv_at hl 4 rfl) ?_
          refine lv_icmp_eq (tgt := 81) hx hb d_MO_firstWrong_75 (by decide) (fun c_75 => ?_) (fun c_75 => ?_)
          · refine lv_aload_n hx hb d_MO_firstWrong_81 rfl (lv_at hl 2 rfl) ?_
            refine lv_iload hx hb d_MO_firstWrong_82 (lv_at hl 1 rfl) ?_
            refine lv_iload hx hb d_MO_firstWrong_84 (lv_at hl 1 rfl) ?_
            refine lv_bipush (v := 16) hx hb d_MO_firstWrong_86 (by decide) ?_
            refine lv_icmp_ne (tgt := 97) hx hb d_MO_firstWrong_88 (by decide) (fun c_88 => ?_) (fun c_88 => ?_)
            · refine lv_iconst (v := 0) hx hb d_MO_firstWrong_97 (by decide) ?_
              refine r_v hC hS (r_runV (np := 2) (As := [.int o, .int 0]) (rest := []) hx hb hml hC hP hS (by decide) rfl rfl (m_MO_openBlock l G X (r.length + 1) (by omega) hD o 0) l_MO_61 im_MO_openBlock se_MO_openBlock in_MO c_MO_openBlock_in (by decide +kernel) ⟨by simp only [rmF]; omega, by simp only [rmF]; omega⟩ rfl hl.1 (Nat.le_of_ble_eq_true rfl) d_MO_firstWrong_98 ⟨Nat.le_refl _, Nat.le_refl _⟩) (fun S_98 H locs hw hP hS => ?_)
              rw [hw] at hP
              refine lv_iconst (v := 0) hx hb d_MO_firstWrong_101 (by decide) ?_
              refine lv_istore_n (lv' := [(2, .int 0), (6, .int a), (5, .int o), (0, .ref (gA G 44)), (1, .int (nI p)), (3, .int le), (4, .int (nI i))]) hx hb d_MO_firstWrong_102 rfl hl (by decide) rfl (fun ls hl => ?_)
              refine lv_goto (tgt := 298) hx hb d_MO_firstWrong_103 (by decide) ?_
              refine lv_iinc (v := nI (i + 1)) (lv' := [(4, .int (nI (i + 1))), (2, .int 0), (6, .int a), (5, .int o), (0, .ref (gA G 44)), (1, .int (nI p)), (3, .int le)]) hx hb d_MO_firstWrong_298 hl (k := 6) rfl (nI_1 _) (by decide) rfl (fun ls hl => ?_)
              refine lv_goto (tgt := 19) hx hb d_MO_firstWrong_301 (by decide) ?_
              exact ih (i + 1) _ ((o, 0, nI i) :: fr :: r) 0 _ _ (by omega) (by omega) rfl (fun h => absurd rfl h) (hR.push _ _ _) (moOpen_8 _ _ _ _) (by have := hl6 hlk0; simp only [List.length_cons] at this ⊢; omega) (hK.psh _ _ _) (Or.inl rfl) (fun h => absurd rfl h) (fun h => absurd h (by simp)) ⟨hbk, Or.inl rfl, fun h => absurd h (by simp)⟩ ⟨_, by rw [as_due hlk0 (c_75.trans hdu), if_neg c_88] at hA2; exact hA2⟩ _ _ _ hP hS (lv_sub hl [4, 5, 1, 6, 0] rfl)
            · refine lv_iload_n hx hb d_MO_firstWrong_91 rfl (lv_at hl 5 rfl) ?_
              refine lv_iconst (v := 1) hx hb d_MO_firstWrong_92 (by decide) ?_
              refine lv_isub hx hb d_MO_firstWrong_93 ?_
              refine lv_goto (tgt := 98) hx hb d_MO_firstWrong_94 (by decide) ?_
              refine r_v hC hS (r_runV (np := 2) (As := [.int o, .int (le - 1)]) (rest := []) hx hb hml hC hP hS (by decide) rfl rfl (m_MO_openBlock l G X (r.length + 1) (by omega) hD o (le - 1)) l_MO_61 im_MO_openBlock se_MO_openBlock in_MO c_MO_openBlock_in (by decide +kernel) ⟨by simp only [rmF]; omega, by simp only [rmF]; omega⟩ rfl hl.1 (Nat.le_of_ble_eq_true rfl) d_MO_firstWrong_98 ⟨Nat.le_refl _, Nat.le_refl _⟩) (fun S_98 H locs hw hP hS => ?_)
              rw [hw] at hP
              refine lv_iconst (v := 0) hx hb d_MO_firstWrong_101 (by decide) ?_
              refine lv_istore_n (lv' := [(2, .int 0), (6, .int a), (5, .int o), (0, .ref (gA G 44)), (1, .int (nI p)), (3, .int le), (4, .int (nI i))]) hx hb d_MO_firstWrong_102 rfl hl (by decide) rfl (fun ls hl => ?_)
              refine lv_goto (tgt := 298) hx hb d_MO_firstWrong_103 (by decide) ?_
              refine lv_iinc (v := nI (i + 1)) (lv' := [(4, .int (nI (i + 1))), (2, .int 0), (6, .int a), (5, .int o), (0, .ref (gA G 44)), (1, .int (nI p)), (3, .int le)]) hx hb d_MO_firstWrong_298 hl (k := 6) rfl (nI_1 _) (by decide) rfl (fun ls hl => ?_)
              refine lv_goto (tgt := 19) hx hb d_MO_firstWrong_301 (by decide) ?_
              exact ih (i + 1) _ ((o, (lk - 1), nI i) :: fr :: r) 0 _ _ (by omega) (by omega) rfl (fun h => absurd rfl h) (by have h := hR.push o (le - 1) (nI i); rw [hle hlk0] at h; rw [hle hlk0]; exact h) (moOpen_8 _ _ _ _) (by have := hl6 hlk0; simp only [List.length_cons] at this ⊢; omega) (hK.psh _ _ _) (Or.inl rfl) (fun h => absurd rfl h) (fun h => absurd h (by simp)) ⟨hbk, lkOK_dec hlok (fun h => absurd (c_88.symm.trans c_75) (by rw [hdu, lkDue, if_neg hlk0, if_pos h]; decide)), fun h => absurd h (by simp)⟩ ⟨_, by rw [as_due hlk0 (c_75.trans hdu), if_pos c_88] at hA2; exact hA2⟩ _ _ _ hP hS (lv_sub hl [4, 5, 1, 6, 0] rfl)
          · refine lv_iload hx hb d_MO_firstWrong_78 (lv_at hl 6 rfl) ?_
            exact e_i hx hb hr hlk hC hP hS d_MO_firstWrong_80 ⟨by rw [as_due0 hlk0 (fun h => c_75 (h.trans hdu.symm))] at hA2; exact hA2, hK⟩
      · have c_62 : st.length = 0 := (q_eq (a := st.length) (b := 0) rfl rfl (by omega) (by omega)).mp c_62
        obtain rfl : st = [] := List.eq_nil_of_length_eq_zero c_62
        refine lv_iload hx hb d_MO_firstWrong_65 (lv_at hl 6 rfl) ?_
        exact e_i hx hb hr hlk hC hP hS d_MO_firstWrong_67 ⟨hA2, hK⟩

set_option maxHeartbeats 4000000 in
set_option maxRecDepth 100000 in
theorem m_MO_firstWrong (l : Launch) (G : WG) (S : SS) (p n : Nat) (hp : p < 4) (hn : n ≤ 32) (hsz : S 47 p = nI n) (htok : ∀ j, j < n → S 45 (32 * p + j) = 9 → lkOK (S 46 (32 * p + j))) : Ci l y_MO_firstWrong b_MO_firstWrong 8 (some (.int)) 1 G [.ref (gA G 44), .int (nI p)] S (fun x S1 => x = fwM S p n ∧ KpM S1 S) := by
  refine mk l (by decide +kernel) (Nat.le_of_ble_eq_true rfl) ?_
  intro pp_ ee_ ss_ mm_ be_ me_ co_ ls hx hb hr hlk hml hC hP hS hl
  have hl : lv_has ls 8 [(0, .ref (gA G 44)), (1, .int (nI p))] := hl
  refine lv_aload_n hx hb d_MO_firstWrong_0 rfl (lv_at hl 0 rfl) ?_
  refine lv_iconst (v := 0) hx hb d_MO_firstWrong_1 (by decide) ?_
  refine r_put hx hb hC hP hS i_MO t_MO t_MO_ok n_MO (44) (by decide) rfl rfl 8 (by decide) l_MO_58 rfl rfl rfl (Nat.le_of_ble_eq_true rfl) d_MO_firstWrong_2 (fun H locs hP hS => ?_)
  refine lv_aload_n hx hb d_MO_firstWrong_5 rfl (lv_at hl 0 rfl) ?_
  refine lv_bipush (v := 20) hx hb d_MO_firstWrong_6 (by decide) ?_
  refine lv_iconst (v := 0) hx hb d_MO_firstWrong_8 (by decide) ?_
  refine r_v hC hS (r_runV (np := 2) (As := [.int 20, .int 0]) (rest := []) hx hb hml hC hP hS (by decide) rfl rfl (m_MO_openBlock l G (su S 44 8 0) 0 (by omega) (su_same _ _ _ _) 20 0) l_MO_61 im_MO_openBlock se_MO_openBlock in_MO c_MO_openBlock_in (by decide +kernel) ⟨by simp only [rmF]; omega, by simp only [rmF]; omega⟩ rfl hl.1 (Nat.le_of_ble_eq_true rfl) d_MO_firstWrong_9 ⟨Nat.le_refl _, Nat.le_refl _⟩) (fun S_9 H locs hw hP hS => ?_)
  rw [hw] at hP
  refine lv_iconst (v := 0) hx hb d_MO_firstWrong_12 (by decide) ?_
  refine lv_istore_n (lv' := [(2, .int 0), (0, .ref (gA G 44)), (1, .int (nI p))]) hx hb d_MO_firstWrong_13 rfl hl (by decide) rfl (fun ls hl => ?_)
  refine lv_iconst (v := 0) hx hb d_MO_firstWrong_14 (by decide) ?_
  refine lv_istore_n (lv' := [(3, .int 0), (2, .int 0), (0, .ref (gA G 44)), (1, .int (nI p))]) hx hb d_MO_firstWrong_15 rfl hl (by decide) rfl (fun ls hl => ?_)
  refine lv_iconst (v := 0) hx hb d_MO_firstWrong_16 (by decide) ?_
  refine lv_istore (lv' := [(4, .int 0), (3, .int 0), (2, .int 0), (0, .ref (gA G 44)), (1, .int (nI p))]) hx hb d_MO_firstWrong_17 hl (by decide) rfl (fun ls hl => ?_)
  exact m_MO_firstWrong_loop l G S p n hp hn hsz htok hx hb hr hlk hml hC (n + 1) 0 _ [(20, 0, -1)] 0 _ _ (Nat.zero_le _) (by omega) rfl (fun h => absurd rfl h) (RepS.push (X := su S 44 8 0) (st := []) trivial _ _ _) (moOpen_8 _ _ _ _) (by decide) ((KpM.pop (fun _ _ _ => rfl) _).psh _ _ _) (Or.inl rfl) (fun h => absurd rfl h) (fun h => absurd h (by simp)) ⟨trivial, Or.inl rfl, fun _ => rfl⟩ ⟨_, rfl⟩ _ _ _ hP hS (lv_sub hl [3, 4, 2, 1, 0] rfl)

def goodM (S : SS) (p n : Nat) (r : Int32) (S1 : SS) : Prop := (fwM S p n < 0 ∧ r = 1 ∧ KpM S1 S) ∨ (¬ fwM S p n < 0 ∧ r = 0 ∧ ∃ X, KpM X S ∧ S1 = su X 44 3 (32 * nI p + fwM S p n))
set_option maxHeartbeats 4000000 in
set_option maxRecDepth 100000 in
theorem m_MO_good (l : Launch) (G : WG) (S : SS) (p n : Nat) (hp : p < 4) (hn : n ≤ 32) (hsz : S 47 p = nI n) (htok : ∀ j, j < n → S 45 (32 * p + j) = 9 → lkOK (S 46 (32 * p + j))) : Ci l y_MO_good b_MO_good 3 (some (.boolean)) 2 G [.ref (gA G 44), .int (nI p)] S (goodM S p n) := by
  refine mk l (by decide +kernel) (Nat.le_of_ble_eq_true rfl) ?_
  intro pp_ ee_ ss_ mm_ be_ me_ co_ ls hx hb hr hlk hml hC hP hS hl
  have hl : lv_has ls 3 [(0, .ref (gA G 44)), (1, .int (nI p))] := hl
  refine lv_aload_n hx hb d_MO_good_0 rfl (lv_at hl 0 rfl) ?_
  refine lv_iload_n hx hb d_MO_good_1 rfl (lv_at hl 1 rfl) ?_
  refine r_i hC hS (r_runV (np := 1) (As := [.int (nI p)]) (rest := []) hx hb hml hC hP hS (by decide) rfl rfl (m_MO_firstWrong l G S p n (by omega) hn hsz htok) l_MO_72 im_MO_firstWrong se_MO_firstWrong in_MO c_MO_firstWrong_in (by decide +kernel) ⟨by simp only [rmF]; omega, by simp only [rmF]; omega⟩ rfl hl.1 (Nat.le_of_ble_eq_true rfl) d_MO_good_2 ⟨Nat.le_refl _, Nat.le_refl _⟩) (fun r_2 S_2 H locs hw hP hS => ?_)
  obtain ⟨rfl, hKp⟩ := hw
  refine lv_istore_n (lv' := [(2, .int (fwM S p n)), (0, .ref (gA G 44)), (1, .int (nI p))]) hx hb d_MO_good_5 rfl hl (by decide) rfl (fun ls hl => ?_)
  refine lv_iload_n hx hb d_MO_good_6 rfl (lv_at hl 0 rfl) ?_
  refine lv_if_ge (tgt := 12) hx hb d_MO_good_7 (by decide) (fun c_7 => ?_) (fun c_7 => ?_)
  · refine lv_aload_n hx hb d_MO_good_12 rfl (lv_at hl 1 rfl) ?_
    refine lv_bipush (v := 32) hx hb d_MO_good_13 (by decide) ?_
    refine lv_iload_n hx hb d_MO_good_15 rfl (lv_at hl 2 rfl) ?_
    refine lv_imul hx hb d_MO_good_16 ?_
    refine lv_iload_n hx hb d_MO_good_17 rfl (lv_at hl 0 rfl) ?_
    refine lv_iadd hx hb d_MO_good_18 ?_
    refine r_put hx hb hC hP hS i_MO t_MO t_MO_ok n_MO (44) (by decide) rfl rfl 3 (by decide) l_MO_19 rfl rfl rfl (Nat.le_of_ble_eq_true rfl) d_MO_good_19 (fun H locs hP hS => ?_)
    refine lv_iconst (v := 0) hx hb d_MO_good_22 (by decide) ?_
    exact e_z hx hb hr hlk hC hP hS d_MO_good_23 (by decide) (Or.inr ⟨by first | assumption | exact Int32.not_lt.mpr (by assumption), rfl, _, hKp, rfl⟩)
  · refine lv_iconst (v := 1) hx hb d_MO_good_10 (by decide) ?_
    exact e_z hx hb hr hlk hC hP hS d_MO_good_11 (by decide) (Or.inl ⟨by first | assumption | exact Int32.not_le.mp (by assumption), rfl, hKp⟩)

