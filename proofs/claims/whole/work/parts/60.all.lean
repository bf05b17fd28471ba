/-! DOITEM, all tokens together; then the induction on levels and blocks -/
def VTok (op ar : Nat → Int32) (j : Nat) : Prop := (op j = 0 ∨ op j = 1 ∨ op j = 2 ∨ op j = 3 ∨ op j = 4 ∨ op j = 5 ∨ op j = 6 ∨ op j = 7 ∨ op j = 8 ∨ op j = 9 ∨ op j = 10 ∨ op j = 11 ∨ op j = 12 ∨ op j = 13 ∨ op j = 14 ∨ op j = 15 ∨ op j = 16 ∨ op j = 17 ∨ op j = 18) ∧ (op j = 10 ∨ op j = 11 ∨ op j = 12 ∨ op j = 15 → ∃ lo, lo < 3 ∧ ar j = nI lo) ∧ (op j = 13 → ∃ pr, pr < 4 ∧ ar j = nI pr) ∧ (op j = 3 → ∃ kk, kk < 100 ∧ ar j = nI kk)
theorem doI_all {l : Launch} {G : WG} {op ar : Nat → Int32} {E sz : Nat → Nat} {F hB hP hh q p i : Nat} (hq : q < 6) (hp : p < 4) (hi : i < sz p) (hv : VTok op ar (32 * p + i)) (hno : ¬ op (32 * p + i) = 18 ∧ ¬ op (32 * p + i) = 16 ∧ ¬ op (32 * p + i) = 17)
    (hsub : op (32 * p + i) = 3 ∨ op (32 * p + i) = 10 ∨ op (32 * p + i) = 14 → DoB l G op ar E sz F hB q p i)
    (htry : op (32 * p + i) = 9 → lkOK (ar (32 * p + i)) ∧ (∀ j, j < tNc ar (32 * p + i) + (if tLa ar (32 * p + i) = true then 1 else 0) → 32 * p ≤ PT E (32 * p + i) j ∧ PT E (32 * p + i) j < 32 * p + sz p) ∧ DoB l G op ar E sz F hB q p i ∧ (∀ j, j < tNc ar (32 * p + i) → DoB l G op ar E sz F hB q p (PT E (32 * p + i) j - 32 * p)) ∧ (tLa ar (32 * p + i) = true → DoB l G op ar E sz F hB q p (PT E (32 * p + i) (tNc ar (32 * p + i)) - 32 * p)))
    (hcall : q < 5 → ∀ pr, pr < 4 → DoP l G op ar E sz F hP (q + 1) pr)
    (h1 : hB + 5 ≤ hh) (h2 : q < 5 → hP + 3 ≤ hh) (h4 : 4 ≤ hh) : DoI l G op ar E sz F hh q p i := by
  intro S c s hok
  by_cases hlt : 300 ≤ gst s.1
  · exact m_MA_doItem_late l G S op ar E sz F q p c i s hq hp hi hok hlt hh h4
  obtain ⟨hr, hv1, hv2, hv3⟩ := hv
  rcases hr with h | h | h | h | h | h | h | h | h | h | h | h | h | h | h | h | h | h | h
  · exact m_MA_doItem_note l G S op ar E sz F q p c i s hq hp hi hok hlt h hh h4
  · exact m_MA_doItem_add l G S op ar E sz F q p c i s hq hp hi hok hlt h hh h4
  · by_cases ha : ar (32 * p + i) = 0
    · exact m_MA_doItem_div0 l G S op ar E sz F q p c i s hq hp hi hok hlt h ha hh h4
    · exact m_MA_doItem_div l G S op ar E sz F q p c i s hq hp hi hok hlt h ha hh h4
  · obtain ⟨kk, hkk, har⟩ := hv3 h
    exact m_MA_doItem_times l G S op ar E sz F q p c i s hq hp hi hok hlt h hB (hsub (Or.inl h)) kk hkk har hh (by omega)
  · exact m_MA_doItem_break l G S op ar E sz F q p c i s hq hp hi hok hlt h hh h4
  · exact m_MA_doItem_next l G S op ar E sz F q p c i s hq hp hi hok hlt h hh h4
  · exact m_MA_doItem_return l G S op ar E sz F q p c i s hq hp hi hok hlt h hh h4
  · exact m_MA_doItem_raise l G S op ar E sz F q p c i s hq hp hi hok hlt h hh h4
  · exact m_MA_doItem_wrap l G S op ar E sz F q p c i s hq hp hi hok hlt h hh h4
  · obtain ⟨t1, t2, t3, t4, t5⟩ := htry h
    exact m_MA_doItem_try l G S op ar E sz F q p c i s hq hp hi hok hlt h hB t3 t1 t2 t4 t5 hh (by omega)
  · obtain ⟨lo, hlo, har⟩ := hv1 (Or.inl h)
    exact m_MA_doItem_lock l G S op ar E sz F q p c i s hq hp hi hok hlt h hB (hsub (Or.inr (Or.inl h))) lo hlo har hh (by omega)
  · obtain ⟨lo, hlo, har⟩ := hv1 (Or.inr (Or.inl h))
    exact m_MA_doItem_enter l G S op ar E sz F q p c i s hq hp hi hok hlt h lo hlo har hh h4
  · obtain ⟨lo, hlo, har⟩ := hv1 (Or.inr (Or.inr (Or.inl h)))
    by_cases he0 : s.2.2 lo = 0
    · exact m_MA_doItem_leave0 l G S op ar E sz F q p c i s hq hp hi hok hlt h lo hlo har he0 hh h4
    · exact m_MA_doItem_leave l G S op ar E sz F q p c i s hq hp hi hok hlt h lo hlo har he0 hh h4
  · obtain ⟨pr, hpr, har⟩ := hv2 h
    by_cases h5 : q = 5
    · exact m_MA_doItem_deep l G S op ar E sz F q p c i s hq hp hi hok hlt h pr hpr har h5 hh h4
    · exact m_MA_doItem_call l G S op ar E sz F q p c i s hq hp hi hok hlt h pr hpr har hP (by omega) (hcall (by omega) pr hpr) hh (h2 (by omega))
  · by_cases ha : ar (32 * p + i) < s.2.1
    · exact m_MA_doItem_above l G S op ar E sz F q p c i s hq hp hi hok hlt h hB (hsub (Or.inr (Or.inr h))) ha hh (by omega)
    · exact m_MA_doItem_above0 l G S op ar E sz F q p c i s hq hp hi hok hlt h ha hh h4
  · obtain ⟨lo, hlo, har⟩ := hv1 (Or.inr (Or.inr (Or.inr h)))
    exact m_MA_doItem_held l G S op ar E sz F q p c i s hq hp hi hok hlt h lo hlo har hh h4
  · exact absurd h hno.2.1
  · exact absurd h hno.2.2
  · exact absurd h hno.1
