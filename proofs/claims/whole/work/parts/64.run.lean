/-! the class's run: written by wip/gen/p64.py -/
def rnPost (S : SS) (nn : Nat → Nat) (op ar : Nat → Int32) (E sz : Nat → Nat) (F nv : Nat) (ev : Nat → Int32) (p_ x r : Int32) (S1 : SS) : Prop := (isB p_ 4 = false ∧ r = -1 ∧ S1 = S) ∨ ∃ p X, p < 4 ∧ p_ = nI p ∧ ((jaPost S nn p (-3) X ∧ r = -3 ∧ S1 = X) ∨ (jaPost S nn p 0 X ∧ PfP X S1 r (sFin (sP0 op ar E sz F 0 p (gInit nv ev, x, fun _ => 0)))))
theorem ja_or {S X : SS} {nn : Nat → Nat} {q : Nat} {r : Int32} (h : jaPost S nn q r X) : r = -3 ∨ r = 0 := by
  rcases h.2 with ⟨p, w, -, -, -, -, h9, -⟩ | ⟨-, h9, -⟩
  · exact Or.inl h9
  · exact Or.inr h9
set_option maxHeartbeats 4000000 in
set_option maxRecDepth 100000 in
theorem m_LB_run (l : Launch) (G : WG) (S : SS) (nn : Nat → Nat) (hTX : TXc S nn) (op ar : Nat → Int32) (E sz : Nat → Nat) (F h nv : Nat) (ev : Nat → Int32) (h9 : S 9 1 = nI nv) (hnv : nv + 300 ≤ 2 ^ 29) (hev : ∀ j, j < nv → nv ≤ j + 32 → S 10 (j % 32) = ev j) (hgo : ∀ p, p < 4 → ∀ X, jaPost S nn p 0 X → TRx X op ar E sz ∧ DoP l G op ar E sz F h 0 p) (p_ x ow : Int32) : Ci l y_LB_run b_LB_run 4 (some (.int)) (h + 5) G [.ref (gA G 0), .int p_, .int x, .int ow] S (rnPost S nn op ar E sz F nv ev p_ x) := by
  refine mk l (by decide +kernel) (Nat.le_of_ble_eq_true rfl) ?_
  intro pp_ ee_ ss_ mm_ be_ me_ co_ ls hx hb hr hlk hml hC hP hS hl
  have hl : lv_has ls 4 [(0, .ref (gA G 0)), (1, .int p_), (2, .int x), (3, .int ow)] := hl
  refine lv_iload_n hx hb d_LB_run_0 rfl (lv_at hl 1 rfl) ?_
  refine lv_iconst (v := 4) hx hb d_LB_run_1 (by decide) ?_
  refine r_i hC hS (r_runS (np := 2) (As := [.int p_, .int 4]) (rest := []) hx hb hml hC hP hS (m_LB_isBelow l G S p_ 4) l_LB_27 st_LB_isBelow in_LB c_LB_isBelow_in (by decide +kernel) ⟨by simp only [rmF]; omega, by simp only [rmF]; omega⟩ rfl hl.1 (Nat.le_of_ble_eq_true rfl) d_LB_run_2 ⟨Nat.le_refl _, Nat.le_refl _⟩) (fun r_2 S_2 H locs hw hP hS => ?_)
  obtain ⟨rfl, hSe⟩ := hw
  rw [hSe] at hP
  refine lv_if_ne (tgt := 10) hx hb d_LB_run_5 (by decide) (fun c_5 => ?_) (fun c_5 => ?_)
  · have c_5 := b2i_t c_5
    obtain ⟨p, hp, rfl⟩ := isB_nI (b := 4) (by omega) c_5
    refine lv_aload_n hx hb d_LB_run_10 rfl (lv_at hl 0 rfl) ?_
    refine lv_iload_n hx hb d_LB_run_11 rfl (lv_at hl 1 rfl) ?_
    refine r_i hC hS (r_runV (np := 1) (As := [.int (nI p)]) (rest := []) hx hb hml hC hP hS (by decide) rfl rfl (m_LB_judgeAll l G S nn hTX p hp) l_LB_54 im_LB_judgeAll se_LB_judgeAll in_LB c_LB_judgeAll_in (by decide +kernel) ⟨by simp only [rmF]; omega, by simp only [rmF]; omega⟩ rfl hl.1 (Nat.le_of_ble_eq_true rfl) d_LB_run_12 ⟨Nat.le_refl _, Nat.le_refl _⟩) (fun r_12 S_12 H locs hw hP hS => ?_)
    have hja := hw
    refine lv_if_ne (tgt := 30) hx hb d_LB_run_15 (by decide) (fun c_15 => ?_) (fun c_15 => ?_)
    · have hja : jaPost S nn p (-3) S_12 := by rcases ja_or hja with h8 | h8; rw [h8] at hja; exact hja; exact absurd h8 c_15
      refine lv_bipush (v := (-3)) hx hb d_LB_run_30 (by decide) ?_
      exact e_i hx hb hr hlk hC hP hS d_LB_run_32 (Or.inr ⟨p, _, hp, rfl, Or.inl ⟨hja, rfl, rfl⟩⟩)
    · rw [c_15] at hja
      refine lv_aload_n hx hb d_LB_run_18 rfl (lv_at hl 0 rfl) ?_
      refine r_get hx hb hC hP i_LB (0) (by decide) rfl rfl 0 (by decide) l_LB_12 rfl d_LB_run_19 ?_
      refine lv_iload_n hx hb d_LB_run_22 rfl (lv_at hl 1 rfl) ?_
      refine lv_iload_n hx hb d_LB_run_23 rfl (lv_at hl 2 rfl) ?_
      refine r_i hC hS (r_runV (np := 2) (As := [.int (nI p), .int x]) (rest := []) hx hb hml hC hP hS (by decide) rfl rfl (m_MA_perform l G S_12 op ar E sz F h p nv x ev hp (hgo p hp _ hja).1 ((hja.1.1 _ _ (by omega)).trans h9) hnv (fun j h1 h2 => (hja.1.1 _ _ (by omega)).trans (hev j h1 h2)) (hgo p hp _ hja).2) l_LB_57 im_MA_perform se_MA_perform in_MA c_MA_perform_in (by decide +kernel) ⟨by simp only [rmF]; omega, by simp only [rmF]; omega⟩ rfl hl.1 (Nat.le_of_ble_eq_true rfl) d_LB_run_24 ⟨Nat.le_refl _, Nat.le_refl _⟩) (fun r_24 S_24 H locs hw hP hS => ?_)
      have hpf := hw
      refine lv_goto (tgt := 32) hx hb d_LB_run_27 (by decide) ?_
      exact e_i hx hb hr hlk hC hP hS d_LB_run_32 (Or.inr ⟨p, S_12, hp, rfl, Or.inr ⟨hja, hpf⟩⟩)
  · have c_5 := b2i_f c_5
    refine lv_iconst (v := (-1)) hx hb d_LB_run_8 (by decide) ?_
    exact e_i hx hb hr hlk hC hP hS d_LB_run_9 (Or.inl ⟨by assumption, rfl, rfl⟩)

