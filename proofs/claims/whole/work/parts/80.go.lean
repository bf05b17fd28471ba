/-! all texts by one number; what judgeAll leaves is what the doing wants -/
def opG (S : SS) (i : Nat) : Int32 := S (12 + 4 * (i / 32)) (i % 32)
def arG (S : SS) (i : Nat) : Int32 := S (13 + 4 * (i / 32)) (i % 32)
def EG (S : SS) (nn : Nat → Nat) (i : Nat) : Nat := 32 * (i / 32) + EL (fwC S (i / 32) (nn (i / 32))).2 (i % 32)
theorem dv32 {p i : Nat} (h : i < 32) : (32 * p + i) / 32 = p ∧ (32 * p + i) % 32 = i := by omega
theorem opG_at (S : SS) {p i : Nat} (h : i < 32) : opG S (32 * p + i) = S (12 + 4 * p) i := by
  unfold opG
  rw [(dv32 h).1, (dv32 h).2]
theorem arG_at (S : SS) {p i : Nat} (h : i < 32) : arG S (32 * p + i) = S (13 + 4 * p) i := by
  unfold arG
  rw [(dv32 h).1, (dv32 h).2]
theorem EG_at (S : SS) (nn : Nat → Nat) {p i : Nat} (h : i < 32) : EG S nn (32 * p + i) = 32 * p + EL (fwC S p (nn p)).2 i := by
  unfold EG
  rw [(dv32 h).1, (dv32 h).2]
/-- tokens that token let in -/
def TKc (S : SS) (nn : Nat → Nat) : Prop := (∀ p, p < 4 → nn p ≤ 32 ∧ S (11 + 4 * p) 3 = nI (nn p) ∧ ∀ j, j < nn p → isTokC (S (12 + 4 * p) j) (S (13 + 4 * p) j) = true) ∧ S 41 0 = 0 ∧ S 42 0 = 0
theorem TKc.tx {S : SS} {nn : Nat → Nat} (h : TKc S nn) : TXc S nn := ⟨fun p hp => ⟨(h.1 p hp).1, (h.1 p hp).2.1, fun j hj h9 => (tok_V ((h.1 p hp).2.2 j hj)).2.2.2.2 h9⟩, h.2⟩
/-- all texts that count are good -/
def AllG (S : SS) (nn : Nat → Nat) : Prop := ∀ p, p < 4 → 0 < nn p → (fwC S p (nn p)).1 = none
theorem ja_all {S X : SS} {nn : Nat → Nat} {q : Nat} (h : jaPost S nn q 0 X) : AllG S nn := by
  intro p hp hn
  rcases h.2 with ⟨p2, w, -, -, -, -, h9, -⟩ | ⟨h1, -⟩
  · exact absurd h9 (by decide)
  · cases hw : (fwC S p (nn p)).1 with
    | none => rfl
    | some w => exact absurd ⟨Or.inr hn, w, hw⟩ (h1 p hp)
theorem opok0 : OpOK 0 [((20, 0, -1) : Fm)] := ⟨Or.inl rfl, trivial⟩
theorem EL_rng {S : SS} {nn : Nat → Nat} {p : Nat} (hn : nn p ≤ 32) (hg : (fwC S p (nn p)).1 = none) {i : Nat} (hi : i < nn p) : (fwC S p (nn p)).2 i = nI (EL (fwC S p (nn p)).2 i) ∧ EL (fwC S p (nn p)).2 i < nn p := by
  have h := auR_rng (op := S (12 + 4 * p)) (ar := S (13 + 4 * p)) (nn p) 0 [(20, 0, -1)] 0 (S (14 + 4 * p)) (by omega) opok0 (fun x hx => absurd hx (Nat.not_lt_zero x)) hg i (by omega)
  obtain ⟨y, h1, h2⟩ := h
  have h3 : (fwC S p (nn p)).2 i = nI y := h2
  have h4 : EL (fwC S p (nn p)).2 i = y := by
    unfold EL
    rw [h3, nI_clamp (by omega)]
  rw [h4]
  exact ⟨h3, by omega⟩
theorem gtx_of {S : SS} {nn : Nat → Nat} (hT : TKc S nn) (hA : AllG S nn) : GTx (opG S) (arG S) (EG S nn) nn := by
  intro p hp i hi
  obtain ⟨h1, h2, h3⟩ := hT.1 p hp
  have hv := tok_V (h3 i hi)
  have hi32 : i < 32 := by omega
  refine ⟨?_, fun ho => ?_⟩
  · unfold VTok
    rw [opG_at S hi32, arG_at S hi32]
    exact ⟨hv.1, hv.2.1, hv.2.2.1, hv.2.2.2.1⟩
  · rw [opG_at S hi32] at ho
    rw [EG_at S nn hi32]
    have hself := auR_self (op := S (12 + 4 * p)) (ar := S (13 + 4 * p)) (nn p) 0 [(20, 0, -1)] 0 (S (14 + 4 * p)) (by omega) opok0 (hA p hp (by omega)) i (Nat.zero_le _) (by omega) ho
    have h4 : (fwC S p (nn p)).2 i = nI i := hself
    unfold EL
    rw [h4, nI_clamp (by omega)]
theorem blk_all {S : SS} {nn : Nat → Nat} (hT : TKc S nn) (hA : AllG S nn) : ∀ p, p < 4 → 0 < nn p → ∃ Fb, blk (opG S) (arG S) (EG S nn) Fb 5 false false (32 * p) (32 * p + nn p - 1) := by
  intro p hp h0
  obtain ⟨h1, h2, h3⟩ := hT.1 p hp
  have hw := hA p hp h0
  have hfw : auR (S (12 + 4 * p)) (S (13 + 4 * p)) (nn p) 0 [(20, 0, -1)] 0 (S (14 + 4 * p)) = (none, (fwC S p (nn p)).2) := Prod.ext hw rfl
  obtain ⟨-, hb⟩ := str_text h1 (fun j hj h9 => (tok_V (h3 j hj)).2.2.2.2 h9) hfw
  have := blk_shift (op := opG S) (ar := arG S) (E := EG S nn) (b := 32 * p) (n := nn p) (fun x hx => opG_at S (by omega)) (fun x hx => arG_at S (by omega)) (fun x hx => EG_at S nn (by omega)) _ _ _ _ _ _ (by omega) hb
  refine ⟨nn p + 1, ?_⟩
  rw [show 32 * p + nn p - 1 = 32 * p + (nn p - 1) by omega]
  exact this
theorem trx_of {S X : SS} {nn : Nat → Nat} {q : Nat} (hT : TKc S nn) (hJ : jaPost S nn q 0 X) : TRx X (opG S) (arG S) (EG S nn) nn := by
  intro p hp
  obtain ⟨h1, h2, h3⟩ := hT.1 p hp
  refine ⟨(hJ.1.1 _ _ (by omega)).trans h2, h1, fun i hi => ?_⟩
  have hi32 : i < 32 := by omega
  obtain ⟨r1, r2⟩ := EL_rng h1 (ja_all hJ p hp (by omega)) hi
  rw [opG_at S hi32, arG_at S hi32, EG_at S nn hi32]
  refine ⟨hJ.1.1 _ _ (by omega), hJ.1.1 _ _ (by omega), ?_, by omega, by omega⟩
  rcases hJ.2 with ⟨p2, w, -, -, -, -, h9, -⟩ | ⟨-, -, -, h4⟩
  · exact absurd h9 (by decide)
  · rw [h4 p hp (Or.inr (by omega)), show 32 * p + EL (fwC S p (nn p)).2 i - 32 * p = EL (fwC S p (nn p)).2 i by omega]
    exact r1
theorem go_of {l : Launch} {G : WG} {S : SS} {nn : Nat → Nat} (hT : TKc S nn) : ∀ p, p < 4 → ∀ X, jaPost S nn p 0 X → TRx X (opG S) (arG S) (EG S nn) nn ∧ DoP l G (opG S) (arG S) (EG S nn) nn 1200 (hIt 0 5 + 4) 0 p := by
  intro p hp X hJ
  have hA := ja_all hJ
  exact ⟨trx_of hT hJ, doP_all (gtx_of hT hA) (blk_all hT hA) (fun p hp => (hT.1 p hp).1) 5 0 (by decide) 1200 p hp (by decide)⟩
