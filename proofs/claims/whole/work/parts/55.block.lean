/-! the class's doBlock over doItem's contract: written by wip/gen/p55.py -/
section CHN
variable (l : Launch) (G : WG) (op ar : Nat → Int32) (E sz : Nat → Nat)
/-- the contract of doItem for the token i of text p -/
def DoI (F h q p i : Nat) : Prop := ∀ (S : SS) (c : Nat) (s : SG), OKs S op ar E sz q p c s → Ce l y_MA_doItem b_MA_doItem 6 h G [.ref (gA G 1), .int (nI q), .int (nI i)] S (fun e S1 => BlkP S S1 q p c (gnf s.1) e (sI op ar E sz (sB op ar E sz F) q c (32 * p + i) s))
def npI (i : Nat) : Nat := if op i = 9 then tNc ar i + (if tLa ar i = true then 1 else 0) else 0
/-- what the walk over a block needs of an item -/
def ItF (p i : Nat) : Prop := 32 * p ≤ i ∧ i < 32 * p + sz p ∧ npI op ar i ≤ 3 ∧ (∀ j, j < npI op ar i → 32 * p ≤ PT E i j ∧ PT E i j < 32 * p + sz p) ∧ nxI op ar E i = PT E i (npI op ar i) ∧ (op i = 9 → lkOK (ar i))
def Chn (P : Nat → Prop) : Nat → Nat → Nat → Prop
  | 0, _, _ => False
  | f + 1, i, e => (i = e ∧ op e = 18) ∨ (i < e ∧ ¬ op i = 18 ∧ P i ∧ i < nxI op ar E i ∧ nxI op ar E i ≤ e ∧ Chn P f (nxI op ar E i) e)
end CHN
theorem lkOK_nc {x : Int32} (h : lkOK x) : ∃ k, k < 3 ∧ x &&& 3 = nI k := by
  rcases h with rfl | rfl | rfl | rfl | rfl | rfl
  · exact ⟨0, by decide, by decide⟩
  · exact ⟨1, by decide, by decide⟩
  · exact ⟨2, by decide, by decide⟩
  · exact ⟨0, by decide, by decide⟩
  · exact ⟨1, by decide, by decide⟩
  · exact ⟨2, by decide, by decide⟩
theorem lkOK_la {x : Int32} (h : lkOK x) : decide (¬ x &&& 4 = 0) = decide (4 ≤ x) := by
  rcases h with rfl | rfl | rfl | rfl | rfl | rfl <;> decide
theorem np_eq {S : SS} {op ar : Nat → Int32} {E sz : Nat → Nat} (hT : TRx S op ar E sz) {p i : Nat} (hp : p < 4) (hi : i < sz p) (hI : ItF op ar E sz p (32 * p + i)) : tCat S p i + b2i (tLast S p i) = nI (npI op ar (32 * p + i)) := by
  obtain ⟨-, -, h3⟩ := hT p hp
  obtain ⟨e1, e2, -⟩ := h3 i hi
  unfold tCat tLast npI
  rw [e1, e2]
  by_cases h9 : op (32 * p + i) = 9
  · have hlk := hI.2.2.2.2.2 h9
    obtain ⟨k, hk, ek⟩ := lkOK_nc hlk
    rw [if_pos h9, if_pos h9, decide_eq_true h9, lkOK_la hlk]
    unfold tNc tLa
    rw [ek, nI_clamp (by omega)]
    show nI k + b2i (decide (4 ≤ ar (32 * p + i))) = _
    cases decide (4 ≤ ar (32 * p + i))
    · show nI k + 0 = nI (k + 0)
      exact nI_add k 0
    · show nI k + 1 = nI (k + 1)
      exact nI_1 k
  · rw [if_neg h9, if_neg h9, decide_eq_false h9]
    rfl
theorem pe_PT {E : Nat → Nat} {p i : Nat} {sz : Nat} (hlo : ∀ j, j < sz → 32 * p ≤ E (32 * p + j)) (hi : i < sz) : ∀ k, (∀ j, j < k → 32 * p ≤ PT E (32 * p + i) j ∧ PT E (32 * p + i) j < 32 * p + sz) → 32 * p + pe (fun j => E (32 * p + j) - 32 * p) i k + 1 = PT E (32 * p + i) k := by
  intro k
  induction k with
  | zero =>
    intro _
    have := hlo i hi
    show 32 * p + (E (32 * p + i) - 32 * p) + 1 = E (32 * p + i) + 1
    omega
  | succ k ih =>
    intro h
    have h1 := ih (fun j hj => h j (by omega))
    have h2 := h k (by omega)
    have h3 : pe (fun j => E (32 * p + j) - 32 * p) i (k + 1) = E (32 * p + (pe (fun j => E (32 * p + j) - 32 * p) i k + 1)) - 32 * p := rfl
    have h4 : 32 * p + (pe (fun j => E (32 * p + j) - 32 * p) i k + 1) = PT E (32 * p + i) k := by omega
    have h5 := hlo (PT E (32 * p + i) k - 32 * p) (by omega)
    rw [show 32 * p + (PT E (32 * p + i) k - 32 * p) = PT E (32 * p + i) k by omega] at h5
    rw [h3, h4]
    show _ = E (PT E (32 * p + i) k) + 1
    omega
set_option maxHeartbeats 4000000 in
set_option maxRecDepth 100000 in
theorem m_MA_doBlock_loop (l : Launch) (G : WG) (S : SS) (op ar : Nat → Int32) (E sz : Nat → Nat) (Fz h q p c i e : Nat) (s : SG) (o_ : Int32) (hq : q < 6) (hp : p < 4) (hok : OKs S op ar E sz q p c s) (hie : i ≤ e) (hip : 32 * p ≤ i) (hez : e < 32 * p + sz p) {pp_ : Program} {ee_ : Env} {ss_ : State} {mm_ : MethodId} {be_ : List Frame} {me_ : Method} {co_ : Code} (hx : pp_.tables.exec = Jvm.exec) (hb : co_.code = b_MA_doBlock) (hr : me_.sig.returnType = (some (.object "EndingsLab$Ending"))) (hlk : me_.locks = false) (hml : co_.maxLocals = 8) (hC : CC G "EndingsLab$Machine" ss_ mm_ ([.ref (gA G 1), .int (nI q), .int o_] : List Value).toArray (AA G)) :
    ∀ (f : Nat) (a F dn : Nat) (X : SS) (t : SG), Chn op ar E (fun i => ItF op ar E sz p i ∧ ∀ F, e + 200 * (5 - q) ≤ i + F → DoI l G op ar E sz F h q p (i - 32 * p)) f (32 * p + a) e → 32 * p + a ≤ e → OKs X op ar E sz q p c t → Kb q X S → gnf s.1 ≤ gnf t.1 → e + 200 * (5 - q) < 32 * p + a + F → dn ≤ a → sB op ar E sz F q c (32 * p + a) t = sB op ar E sz Fz q c i s →  ∀ (H : Heap) (locs : List Loc) (ls : Array Slot), va_P (gD G) clsL (wl (gA G) 57 (fS G X)) H → va_S (AA G) ss_.heap H locs → lv_has ls 8 [(0, .ref (gA G 1)), (1, .int (nI q)), (2, .int o_), (3, .ref (gA G (11 + 4 * p))), (4, .int (nI (e - 32 * p))), (5, .int (nI a)), (6, .int (nI dn))] → W pp_ l ee_ (rmF (h + 2)) ss_ mm_ ([.ref (gA G 1), .int (nI q), .int o_] : List Value).toArray be_ me_ co_ H locs 0 0 (MQ be_ (va_Qr (S := Nat × SS) (fun u => u.1 < 6 ∧ (fun e2 S1 => BlkP S S1 q p c (gnf s.1) e2 (sB op ar E sz Fz q c i s)) u.1 u.2) (fun u b t => b = gE G u.1 ∧ WD G u.2 t) (AA G)) ([.ref (gA G 1), .int (nI q), .int o_] : List Value).toArray ss_ 0 0 (AA G)) (F0 mm_ 36 ls []) := by
  intro f
  induction f with
  | zero =>
    intro a F dn X t hch hae hX hK hn9 hF hdn hR H locs ls hP hS hl
    exact hch.elim
  | succ f ih =>
    intro a F dn X t hch hae hX hK hn9 hF hdn hR H locs ls hP hS hl
    have hz32 := (hok.1 p hp).2.1
    refine lv_iload hx hb d_MA_doBlock_36 (lv_at hl 6 rfl) ?_
    refine lv_bipush (v := 32) hx hb d_MA_doBlock_38 (by decide) ?_
    refine lv_icmp_ge (tgt := 84) hx hb d_MA_doBlock_40 (by decide) (fun c_40 => ?_) (fun c_40 => ?_)
    · have c_40 : 32 ≤ dn := (q_le (a := 32) (b := dn) rfl rfl (by omega) (by omega)).mp c_40
      refine r_enum hx hb hC hS 0 (by decide) l_MA_86 d_MA_doBlock_84 ?_
      exact e_e (post := fun e2 S1 => BlkP S S1 q p c (gnf s.1) e2 (sB op ar E sz Fz q c i s)) hx hb hr hlk hC hP hS d_MA_doBlock_87 (by decide) (by exfalso; have h1 := (hok.1 p hp).2.1; omega)
    · have c_40 : ¬ 32 ≤ dn := fun h => c_40 ((q_le (a := 32) (b := dn) rfl rfl (by omega) (by omega)).mpr h)
      refine lv_iload hx hb d_MA_doBlock_43 (lv_at hl 5 rfl) ?_
      refine lv_iload hx hb d_MA_doBlock_45 (lv_at hl 4 rfl) ?_
      refine lv_icmp_ge (tgt := 84) hx hb d_MA_doBlock_47 (by decide) (fun c_47 => ?_) (fun c_47 => ?_)
      · have c_47 : e - 32 * p ≤ a := (q_le (a := e - 32 * p) (b := a) rfl rfl (by omega) (by omega)).mp c_47
        refine r_enum hx hb hC hS 0 (by decide) l_MA_86 d_MA_doBlock_84 ?_
        exact e_e (post := fun e2 S1 => BlkP S S1 q p c (gnf s.1) e2 (sB op ar E sz Fz q c i s)) hx hb hr hlk hC hP hS d_MA_doBlock_87 (by decide) (by have hop : op (32 * p + a) = 18 := (by rcases hch with hc9 | hc9; rw [hc9.1]; exact hc9.2; exact absurd hc9.1 (by omega)); obtain ⟨F1, rfl⟩ : ∃ F1, F = F1 + 1 := ⟨F - 1, by omega⟩; rw [← hR]; show BlkP _ _ _ _ _ _ _ (if _ then _ else _); rw [if_pos hop]; exact BlkP.on hX hK hn9)
      · have c_47 : ¬ e - 32 * p ≤ a := fun h => c_47 ((q_le (a := e - 32 * p) (b := a) rfl rfl (by omega) (by omega)).mpr h)
        obtain ⟨hop, ⟨hIt, hDo9⟩, hnx1, hnx2, hch2⟩ : ¬ op (32 * p + a) = 18 ∧ (ItF op ar E sz p (32 * p + a) ∧ ∀ F, e + 200 * (5 - q) ≤ 32 * p + a + F → DoI l G op ar E sz F h q p (32 * p + a - 32 * p)) ∧ 32 * p + a < nxI op ar E (32 * p + a) ∧ nxI op ar E (32 * p + a) ≤ e ∧ Chn op ar E (fun i => ItF op ar E sz p i ∧ ∀ F, e + 200 * (5 - q) ≤ i + F → DoI l G op ar E sz F h q p (i - 32 * p)) f (nxI op ar E (32 * p + a)) e := by
          rcases hch with hc9 | hc9
          · exact absurd hc9.1 (by omega)
          · exact hc9.2
        obtain ⟨F1, rfl⟩ : ∃ F1, F = F1 + 1 := ⟨F - 1, by omega⟩
        have hDo : DoI l G op ar E sz F1 h q p a := by have h9 := hDo9 F1 (by omega); rw [show 32 * p + a - 32 * p = a by omega] at h9; exact h9
        have hasz : a < sz p := by omega
        refine lv_aload_n hx hb d_MA_doBlock_50 rfl (lv_at hl 0 rfl) ?_
        refine lv_iload_n hx hb d_MA_doBlock_51 rfl (lv_at hl 1 rfl) ?_
        refine lv_iload hx hb d_MA_doBlock_52 (lv_at hl 5 rfl) ?_
        refine r_e (post := fun e2 S1 => BlkP X S1 q p c (gnf t.1) e2 (sI op ar E sz (sB op ar E sz F1) q c (32 * p + a) t)) hC hS (r_runV (np := 2) (As := [.int (nI q), .int (nI a)]) (rest := []) hx hb hml hC hP hS (by decide) rfl rfl (show Ce l y_MA_doItem b_MA_doItem 6 h G [.ref (gA G 1), .int (nI q), .int (nI a)] X (fun e2 S1 => BlkP X S1 q p c (gnf t.1) e2 (sI op ar E sz (sB op ar E sz F1) q c (32 * p + a) t)) from hDo X c t hX) l_MA_123 im_MA_doItem se_MA_doItem in_MA c_MA_doItem_in (by decide +kernel) ⟨by simp only [rmF]; omega, by simp only [rmF]; omega⟩ rfl hl.1 (Nat.le_of_ble_eq_true rfl) d_MA_doBlock_54 ⟨Nat.le_refl _, Nat.le_refl _⟩) (fun i_54 S_54 H locs hi_54 hw hP hS => ?_)
        have hw_54 := hw
        refine lv_astore (lv' := [(7, .ref (gE G i_54)), (0, .ref (gA G 1)), (1, .int (nI q)), (2, .int o_), (3, .ref (gA G (11 + 4 * p))), (4, .int (nI (e - 32 * p))), (5, .int (nI a)), (6, .int (nI dn))]) hx hb d_MA_doBlock_57 hl (by decide) rfl (fun ls hl => ?_)
        refine lv_aload hx hb d_MA_doBlock_59 (lv_at hl 0 rfl) ?_
        refine r_enum hx hb hC hS 0 (by decide) l_MA_86 d_MA_doBlock_61 ?_
        refine lv_acmp_eq (rx := some (gE G i_54)) (ry := some (gE G 0)) (tgt := 70) hx hb d_MA_doBlock_64 (by decide) (fun c_64 => ?_) (fun c_64 => ?_)
        · have c_64 := gE_eq hC.2.2.1 hi_54 (by decide) c_64
          have hok54 := hw_54.ok hX.1 (by omega)
          have hT54 := hok54.1 p hp
          refine lv_aload_n hx hb d_MA_doBlock_70 rfl (lv_at hl 4 rfl) ?_
          refine lv_iload hx hb d_MA_doBlock_71 (lv_at hl 6 rfl) ?_
          refine r_i hC hS (r_runV (np := 1) (As := [.int (nI a)]) (rest := []) hx hb hml hC hP hS (by omega) (sh_T G _ hp) rfl (m_TE_behind l G S_54 p a (sz p) (npI op ar (32 * p + a)) hp hT54.2.1 hasz hT54.1 (fun j => E (32 * p + j) - 32 * p) (fun j hj => ⟨(hT54.2.2 j hj).2.2.1, by have h1 := (hT54.2.2 j hj).2.2.2; have h2 := hT54.2.1; omega⟩) hIt.2.2.1 (np_eq hok54.1 hp hasz hIt) (fun k hk => by have h1 := pe_PT (sz := sz p) (fun j hj => (hT54.2.2 j hj).2.2.2.1) hasz k (fun j hj => hIt.2.2.2.1 j (by omega)); have h2 := hIt.2.2.2.1 k hk; omega)) l_MA_126 im_TE_behind se_TE_behind in_TE c_TE_behind_in (by decide +kernel) ⟨by simp only [rmF]; omega, by simp only [rmF]; omega⟩ rfl hl.1 (Nat.le_of_ble_eq_true rfl) d_MA_doBlock_73 ⟨Nat.le_refl _, Nat.le_refl _⟩) (fun r_73 S_73 H locs hw hP hS => ?_)
          obtain ⟨rfl, hSe⟩ := hw
          rw [hSe] at hP
          rw [show pe (fun j => E (32 * p + j) - 32 * p) a (npI op ar (32 * p + a)) + 1 = nxI op ar E (32 * p + a) - 32 * p from by have h1 := pe_PT (sz := sz p) (fun j hj => (hT54.2.2 j hj).2.2.2.1) hasz (npI op ar (32 * p + a)) hIt.2.2.2.1; rw [hIt.2.2.2.2.1]; omega]
          refine lv_istore (lv' := [(5, .int (nI (nxI op ar E (32 * p + a) - 32 * p))), (7, .ref (gE G i_54)), (0, .ref (gA G 1)), (1, .int (nI q)), (2, .int o_), (3, .ref (gA G (11 + 4 * p))), (4, .int (nI (e - 32 * p))), (6, .int (nI dn))]) hx hb d_MA_doBlock_76 hl (by decide) rfl (fun ls hl => ?_)
          refine lv_iinc (v := nI (dn + 1)) (lv' := [(6, .int (nI (dn + 1))), (5, .int (nI (nxI op ar E (32 * p + a) - 32 * p))), (7, .ref (gE G i_54)), (0, .ref (gA G 1)), (1, .int (nI q)), (2, .int o_), (3, .ref (gA G (11 + 4 * p))), (4, .int (nI (e - 32 * p)))]) hx hb d_MA_doBlock_78 hl (k := 7) rfl (nI_1 _) (by decide) rfl (fun ls hl => ?_)
          refine lv_goto (tgt := 36) hx hb d_MA_doBlock_81 (by decide) ?_
          exact ih (nxI op ar E (32 * p + a) - 32 * p) F1 (dn + 1) S_54 _ (by rw [show 32 * p + (nxI op ar E (32 * p + a) - 32 * p) = nxI op ar E (32 * p + a) by omega]; exact hch2) (by omega) hok54 (hw_54.2.1.tr hK) (Nat.le_trans hn9 (hw_54.2.2.2 (by rw [← hw_54.1]; omega)).1) (by omega) (by omega) (by rw [← hR, show 32 * p + (nxI op ar E (32 * p + a) - 32 * p) = nxI op ar E (32 * p + a) by omega]; show _ = (if _ then _ else if _ then _ else _); rw [if_neg hop, if_pos (by rw [← hw_54.1]; exact c_64)]) _ _ _ hP hS (lv_sub hl [3, 4, 5, 6, 7, 1, 0] rfl)
        · have c_64 := gE_ne c_64
          refine lv_aload hx hb d_MA_doBlock_67 (lv_at hl 0 rfl) ?_
          exact e_e (post := fun e2 S1 => BlkP S S1 q p c (gnf s.1) e2 (sB op ar E sz Fz q c i s)) hx hb hr hlk hC hP hS d_MA_doBlock_69 hi_54 (by rw [← hR]; show BlkP _ _ _ _ _ _ _ (if _ then _ else if _ then _ else _); rw [if_neg hop, if_neg (by rw [← hw_54.1]; exact c_64)]; exact (hw_54.pre hK).n0 hn9)

set_option maxHeartbeats 4000000 in
set_option maxRecDepth 100000 in
theorem m_MA_doBlockO (l : Launch) (G : WG) (S : SS) (op ar : Nat → Int32) (E sz : Nat → Nat) (F h q p c : Nat) (s : SG) (hq : q < 6) (hp : p < 4) (hok : OKs S op ar E sz q p c s) (o Fb : Nat) (ho : o < sz p) (hoe : 32 * p + o < E (32 * p + o)) (hF : E (32 * p + o) + 200 * (5 - q) < 32 * p + o + 1 + F) (hch : Chn op ar E (fun i => ItF op ar E sz p i ∧ ∀ F, E (32 * p + o) + 200 * (5 - q) ≤ i + F → DoI l G op ar E sz F h q p (i - 32 * p)) Fb (32 * p + (o + 1)) (E (32 * p + o))) : Ce l y_MA_doBlock b_MA_doBlock 8 (h + 2) G [.ref (gA G 1), .int (nI q), .int (nI o)] S (fun e2 S1 => BlkP S S1 q p c (gnf s.1) e2 (sB op ar E sz F q c (32 * p + (o + 1)) s)) := by
  have hpr := hok.2.2.1.1
  have hz32 := (hok.1 p hp).2.1
  have hEo := ((hok.1 p hp).2.2 o ho).2.2.2
  refine mk l (by decide +kernel) (Nat.le_of_ble_eq_true rfl) ?_
  intro pp_ ee_ ss_ mm_ be_ me_ co_ ls hx hb hr hlk hml hC hP hS hl
  have hl : lv_has ls 8 [(0, .ref (gA G 1)), (1, .int (nI q)), (2, .int (nI o))] := hl
  refine lv_aload_n hx hb d_MA_doBlock_0 rfl (lv_at hl 0 rfl) ?_
  refine lv_iload_n hx hb d_MA_doBlock_1 rfl (lv_at hl 1 rfl) ?_
  refine r_r (post := fun i S1 => i = 11 + 4 * p ∧ S1 = S) hC hS (r_runV (np := 1) (As := [.int (nI q)]) (rest := []) hx hb hml hC hP hS (by decide) rfl rfl (m_MA_textOf l G S q p (by omega) hp hpr) l_MA_113 im_MA_textOf se_MA_textOf in_MA c_MA_textOf_in (by decide +kernel) ⟨by simp only [rmF]; omega, by simp only [rmF]; omega⟩ rfl hl.1 (Nat.le_of_ble_eq_true rfl) d_MA_doBlock_2 ⟨Nat.le_refl _, Nat.le_refl _⟩) (fun i_2 S_2 H locs hw hP hS => ?_)
  obtain ⟨rfl, hSe⟩ := hw
  rw [hSe] at hP
  refine lv_astore_n (lv' := [(3, .ref (gA G (11 + 4 * p))), (0, .ref (gA G 1)), (1, .int (nI q)), (2, .int (nI o))]) hx hb d_MA_doBlock_5 rfl hl (by decide) rfl (fun ls hl => ?_)
  refine lv_iload_n hx hb d_MA_doBlock_6 rfl (lv_at hl 3 rfl) ?_
  refine lv_iconst (v := (-1)) hx hb d_MA_doBlock_7 (by decide) ?_
  refine lv_icmp_ne (tgt := 20) hx hb d_MA_doBlock_8 (by decide) (fun c_8 => ?_) (fun c_8 => absurd c_8 (fun h => absurd (h ▸ nI_pos' (n := o) (by omega)) (by decide)))
  refine lv_aload_n hx hb d_MA_doBlock_20 rfl (lv_at hl 0 rfl) ?_
  refine r_getN hx hb hC hP i_TE (11 + 4 * p) (by omega) (sh_T G _ hp) rfl 2 (by decide) k_MA_120 rfl d_MA_doBlock_21 ?_
  refine lv_iload_n hx hb d_MA_doBlock_24 rfl (lv_at hl 3 rfl) ?_
  refine r_ild hx hb hC hP (14 + 4 * p) (by omega) (sh_T3 G _ hp) o rfl (by omega) (by decide) d_MA_doBlock_25 ?_
  rw [show S (14 + 4 * p) o = nI (E (32 * p + o) - 32 * p) from ((hok.1 p hp).2.2 o ho).2.2.1]
  refine lv_istore (lv' := [(4, .int (nI (E (32 * p + o) - 32 * p))), (3, .ref (gA G (11 + 4 * p))), (0, .ref (gA G 1)), (1, .int (nI q)), (2, .int (nI o))]) hx hb d_MA_doBlock_26 hl (by decide) rfl (fun ls hl => ?_)
  refine lv_iload_n hx hb d_MA_doBlock_28 rfl (lv_at hl 4 rfl) ?_
  refine lv_iconst (v := 1) hx hb d_MA_doBlock_29 (by decide) ?_
  refine lv_iadd hx hb d_MA_doBlock_30 ?_
  rw [show (nI o) + 1 = nI (o + 1) from nI_1 _]
  refine lv_istore (lv' := [(5, .int (nI (o + 1))), (4, .int (nI (E (32 * p + o) - 32 * p))), (3, .ref (gA G (11 + 4 * p))), (0, .ref (gA G 1)), (1, .int (nI q)), (2, .int (nI o))]) hx hb d_MA_doBlock_31 hl (by decide) rfl (fun ls hl => ?_)
  refine lv_iconst (v := 0) hx hb d_MA_doBlock_33 (by decide) ?_
  refine lv_istore (lv' := [(6, .int 0), (5, .int (nI (o + 1))), (4, .int (nI (E (32 * p + o) - 32 * p))), (3, .ref (gA G (11 + 4 * p))), (0, .ref (gA G 1)), (1, .int (nI q)), (2, .int (nI o))]) hx hb d_MA_doBlock_34 hl (by decide) rfl (fun ls hl => ?_)
  exact m_MA_doBlock_loop l G S op ar E sz F h q p c (32 * p + (o + 1)) (E (32 * p + o)) s (nI o) hq hp hok (by omega) (by omega) (by omega) hx hb hr hlk hml hC Fb (o + 1) F 0 _ s hch (by omega) hok (Kb.rf q S) (Nat.le_refl _) (by omega) (by omega) rfl _ _ _ hP hS (lv_sub hl [4, 5, 6, 3, 2, 1, 0] rfl)

set_option maxHeartbeats 4000000 in
set_option maxRecDepth 100000 in
theorem m_MA_doBlockT (l : Launch) (G : WG) (S : SS) (op ar : Nat → Int32) (E sz : Nat → Nat) (F h q p c : Nat) (s : SG) (hq : q < 6) (hp : p < 4) (hok : OKs S op ar E sz q p c s) (Fb : Nat) (hz0 : 0 < sz p) (hF : sz p + 200 * (5 - q) < F + 1) (hch : Chn op ar E (fun i => ItF op ar E sz p i ∧ ∀ F, 32 * p + sz p - 1 + 200 * (5 - q) ≤ i + F → DoI l G op ar E sz F h q p (i - 32 * p)) Fb (32 * p + 0) (32 * p + sz p - 1)) : Ce l y_MA_doBlock b_MA_doBlock 8 (h + 2) G [.ref (gA G 1), .int (nI q), .int (-1)] S (fun e2 S1 => BlkP S S1 q p c (gnf s.1) e2 (sB op ar E sz F q c (32 * p + 0) s)) := by
  have hpr := hok.2.2.1.1
  have hz32 := (hok.1 p hp).2.1
  refine mk l (by decide +kernel) (Nat.le_of_ble_eq_true rfl) ?_
  intro pp_ ee_ ss_ mm_ be_ me_ co_ ls hx hb hr hlk hml hC hP hS hl
  have hl : lv_has ls 8 [(0, .ref (gA G 1)), (1, .int (nI q)), (2, .int (-1))] := hl
  refine lv_aload_n hx hb d_MA_doBlock_0 rfl (lv_at hl 0 rfl) ?_
  refine lv_iload_n hx hb d_MA_doBlock_1 rfl (lv_at hl 1 rfl) ?_
  refine r_r (post := fun i S1 => i = 11 + 4 * p ∧ S1 = S) hC hS (r_runV (np := 1) (As := [.int (nI q)]) (rest := []) hx hb hml hC hP hS (by decide) rfl rfl (m_MA_textOf l G S q p (by omega) hp hpr) l_MA_113 im_MA_textOf se_MA_textOf in_MA c_MA_textOf_in (by decide +kernel) ⟨by simp only [rmF]; omega, by simp only [rmF]; omega⟩ rfl hl.1 (Nat.le_of_ble_eq_true rfl) d_MA_doBlock_2 ⟨Nat.le_refl _, Nat.le_refl _⟩) (fun i_2 S_2 H locs hw hP hS => ?_)
  obtain ⟨rfl, hSe⟩ := hw
  rw [hSe] at hP
  refine lv_astore_n (lv' := [(3, .ref (gA G (11 + 4 * p))), (0, .ref (gA G 1)), (1, .int (nI q)), (2, .int (-1))]) hx hb d_MA_doBlock_5 rfl hl (by decide) rfl (fun ls hl => ?_)
  refine lv_iload_n hx hb d_MA_doBlock_6 rfl (lv_at hl 3 rfl) ?_
  refine lv_iconst (v := (-1)) hx hb d_MA_doBlock_7 (by decide) ?_
  refine lv_icmp_ne (tgt := 20) hx hb d_MA_doBlock_8 (by decide) (fun h => absurd h (by decide)) (fun _ => ?_)
  refine lv_aload_n hx hb d_MA_doBlock_11 rfl (lv_at hl 0 rfl) ?_
  refine r_getN hx hb hC hP i_TE (11 + 4 * p) (by omega) (sh_T G _ hp) rfl 3 (by decide) k_MA_117 rfl d_MA_doBlock_12 ?_
  rw [show S (11 + 4 * p) 3 = nI (sz p) from (hok.1 p hp).1]
  refine lv_iconst (v := 1) hx hb d_MA_doBlock_15 (by decide) ?_
  refine lv_isub hx hb d_MA_doBlock_16 ?_
  rw [show (nI (sz p)) - 1 = nI (32 * p + sz p - 1 - 32 * p) from (by rw [show (1 : Int32) = nI 1 from rfl, pk_sub (by omega)]; congr 1; omega)]
  refine lv_goto (tgt := 26) hx hb d_MA_doBlock_17 (by decide) ?_
  refine lv_istore (lv' := [(4, .int (nI (32 * p + sz p - 1 - 32 * p))), (3, .ref (gA G (11 + 4 * p))), (0, .ref (gA G 1)), (1, .int (nI q)), (2, .int (-1))]) hx hb d_MA_doBlock_26 hl (by decide) rfl (fun ls hl => ?_)
  refine lv_iload_n hx hb d_MA_doBlock_28 rfl (lv_at hl 4 rfl) ?_
  refine lv_iconst (v := 1) hx hb d_MA_doBlock_29 (by decide) ?_
  refine lv_iadd hx hb d_MA_doBlock_30 ?_
  refine W.eq (g2 := F0 mm_ 31 ls (.int 0 :: [])) rfl ?_
  refine lv_istore (lv' := [(5, .int 0), (4, .int (nI (32 * p + sz p - 1 - 32 * p))), (3, .ref (gA G (11 + 4 * p))), (0, .ref (gA G 1)), (1, .int (nI q)), (2, .int (-1))]) hx hb d_MA_doBlock_31 hl (by decide) rfl (fun ls hl => ?_)
  refine lv_iconst (v := 0) hx hb d_MA_doBlock_33 (by decide) ?_
  refine lv_istore (lv' := [(6, .int 0), (5, .int 0), (4, .int (nI (32 * p + sz p - 1 - 32 * p))), (3, .ref (gA G (11 + 4 * p))), (0, .ref (gA G 1)), (1, .int (nI q)), (2, .int (-1))]) hx hb d_MA_doBlock_34 hl (by decide) rfl (fun ls hl => ?_)
  exact m_MA_doBlock_loop l G S op ar E sz F h q p c (32 * p + 0) (32 * p + sz p - 1) s (-1) hq hp hok (by omega) (by omega) (by omega) hx hb hr hlk hml hC Fb 0 F 0 _ s hch (by omega) hok (Kb.rf q S) (Nat.le_refl _) (by omega) (by omega) rfl _ _ _ hP hS (lv_sub hl [4, 5, 6, 3, 2, 1, 0] rfl)

set_option maxHeartbeats 4000000 in
set_option maxRecDepth 100000 in
theorem m_MA_doBlockE (l : Launch) (G : WG) (S : SS) (op ar : Nat → Int32) (E sz : Nat → Nat) (h q p c : Nat) (s : SG) (hq : q < 6) (hp : p < 4) (hok : OKs S op ar E sz q p c s) (hz0 : sz p = 0) : Ce l y_MA_doBlock b_MA_doBlock 8 (h + 2) G [.ref (gA G 1), .int (nI q), .int (-1)] S (fun e2 S1 => BlkP S S1 q p c (gnf s.1) e2 (rOn s)) := by
  have hpr := hok.2.2.1.1
  refine mk l (by decide +kernel) (Nat.le_of_ble_eq_true rfl) ?_
  intro pp_ ee_ ss_ mm_ be_ me_ co_ ls hx hb hr hlk hml hC hP hS hl
  have hl : lv_has ls 8 [(0, .ref (gA G 1)), (1, .int (nI q)), (2, .int (-1))] := hl
  refine lv_aload_n hx hb d_MA_doBlock_0 rfl (lv_at hl 0 rfl) ?_
  refine lv_iload_n hx hb d_MA_doBlock_1 rfl (lv_at hl 1 rfl) ?_
  refine r_r (post := fun i S1 => i = 11 + 4 * p ∧ S1 = S) hC hS (r_runV (np := 1) (As := [.int (nI q)]) (rest := []) hx hb hml hC hP hS (by decide) rfl rfl (m_MA_textOf l G S q p (by omega) hp hpr) l_MA_113 im_MA_textOf se_MA_textOf in_MA c_MA_textOf_in (by decide +kernel) ⟨by simp only [rmF]; omega, by simp only [rmF]; omega⟩ rfl hl.1 (Nat.le_of_ble_eq_true rfl) d_MA_doBlock_2 ⟨Nat.le_refl _, Nat.le_refl _⟩) (fun i_2 S_2 H locs hw hP hS => ?_)
  obtain ⟨rfl, hSe⟩ := hw
  rw [hSe] at hP
  refine lv_astore_n (lv' := [(3, .ref (gA G (11 + 4 * p))), (0, .ref (gA G 1)), (1, .int (nI q)), (2, .int (-1))]) hx hb d_MA_doBlock_5 rfl hl (by decide) rfl (fun ls hl => ?_)
  refine lv_iload_n hx hb d_MA_doBlock_6 rfl (lv_at hl 3 rfl) ?_
  refine lv_iconst (v := (-1)) hx hb d_MA_doBlock_7 (by decide) ?_
  refine lv_icmp_ne (tgt := 20) hx hb d_MA_doBlock_8 (by decide) (fun h => absurd h (by decide)) (fun _ => ?_)
  refine lv_aload_n hx hb d_MA_doBlock_11 rfl (lv_at hl 0 rfl) ?_
  refine r_getN hx hb hC hP i_TE (11 + 4 * p) (by omega) (sh_T G _ hp) rfl 3 (by decide) k_MA_117 rfl d_MA_doBlock_12 ?_
  rw [show S (11 + 4 * p) 3 = 0 from ((hok.1 p hp).1.trans (by rw [hz0]; rfl))]
  refine lv_iconst (v := 1) hx hb d_MA_doBlock_15 (by decide) ?_
  refine lv_isub hx hb d_MA_doBlock_16 ?_
  refine W.eq (g2 := F0 mm_ 17 ls (.int (-1) :: [])) rfl ?_
  refine lv_goto (tgt := 26) hx hb d_MA_doBlock_17 (by decide) ?_
  refine lv_istore (lv' := [(4, .int (-1)), (3, .ref (gA G (11 + 4 * p))), (0, .ref (gA G 1)), (1, .int (nI q)), (2, .int (-1))]) hx hb d_MA_doBlock_26 hl (by decide) rfl (fun ls hl => ?_)
  refine lv_iload_n hx hb d_MA_doBlock_28 rfl (lv_at hl 4 rfl) ?_
  refine lv_iconst (v := 1) hx hb d_MA_doBlock_29 (by decide) ?_
  refine lv_iadd hx hb d_MA_doBlock_30 ?_
  refine W.eq (g2 := F0 mm_ 31 ls (.int 0 :: [])) rfl ?_
  refine lv_istore (lv' := [(5, .int 0), (4, .int (-1)), (3, .ref (gA G (11 + 4 * p))), (0, .ref (gA G 1)), (1, .int (nI q)), (2, .int (-1))]) hx hb d_MA_doBlock_31 hl (by decide) rfl (fun ls hl => ?_)
  refine lv_iconst (v := 0) hx hb d_MA_doBlock_33 (by decide) ?_
  refine lv_istore (lv' := [(6, .int 0), (5, .int 0), (4, .int (-1)), (3, .ref (gA G (11 + 4 * p))), (0, .ref (gA G 1)), (1, .int (nI q)), (2, .int (-1))]) hx hb d_MA_doBlock_34 hl (by decide) rfl (fun ls hl => ?_)
  refine lv_iload hx hb d_MA_doBlock_36 (lv_at hl 0 rfl) ?_
  refine lv_bipush (v := 32) hx hb d_MA_doBlock_38 (by decide) ?_
  refine lv_icmp_ge (tgt := 84) hx hb d_MA_doBlock_40 (by decide) (fun h => absurd h (by decide)) (fun _ => ?_)
  refine lv_iload hx hb d_MA_doBlock_43 (lv_at hl 1 rfl) ?_
  refine lv_iload hx hb d_MA_doBlock_45 (lv_at hl 2 rfl) ?_
  refine lv_icmp_ge (tgt := 84) hx hb d_MA_doBlock_47 (by decide) (fun _ => ?_) (fun h => absurd h (by decide))
  refine r_enum hx hb hC hS 0 (by decide) l_MA_86 d_MA_doBlock_84 ?_
  exact e_e (post := fun e2 S1 => BlkP S S1 q p c (gnf s.1) e2 (rOn s)) hx hb hr hlk hC hP hS d_MA_doBlock_87 (by decide) (BlkP.on hok (Kb.rf q S) (Nat.le_refl _))

