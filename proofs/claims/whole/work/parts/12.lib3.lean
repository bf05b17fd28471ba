/-! A contract from its walk; booleans; the enum's constants apart -/
theorem mk (l : Launch) {y : MethodName} {bb : ByteArray} {n h : Nat} {rt : Option FieldType} {G : WG} {as : List Value} {S : SS} {Qc : Array Value → State → Outcome → State → Prop} (hy : plainName y.cls = true) (hn : (lg_sl as).length ≤ n)
    (body : ∀ (p : Program) (e : Env) (s : State) (m : MethodId) (below : List Frame) (meth : Method) (c : Code) (ls : Array Slot), p.tables.exec = Jvm.exec → c.code = bb → meth.sig.returnType = rt → meth.locks = false → c.maxLocals = n → CC G y.cls s m as.toArray (AA G) → va_P (gD G) clsL (wl (gA G) 57 (fS G S)) s.heap → va_S (AA G) s.heap s.heap [] → lv_has ls n (lv_args 0 as) →
      W p l e (rmF h) s m as.toArray below meth c s.heap [] 0 0 (MQ below Qc as.toArray s 0 0 (AA G)) (F0 m 0 ls [])) : Met l y (wsM y bb n rt) (rmF h) (Pw G as S) Qc 0 0 (AA G) := by
  refine Met.ofW (cc := bb) (maxL := n) (ret := rt) hy rfl ?_
  intro p e s m args below meth c s₁ B hml hv
  obtain ⟨rfl, hP, hKK⟩ := hv
  have hC : CC G y.cls s m as.toArray (AA G) := ⟨findClass_of_methodNamed B.named, fun w h => atoms_spec (ws := wsM y bb n rt) B.pre w (List.mem_cons_of_mem _ h), hKK, fun _ h => h, fun _ _ h => h⟩
  have hl := lv_entry as (n := n) hn
  rw [lg_entry_eq]
  generalize (lg_sl as ++ List.replicate (n - (lg_sl as).length) Slot.unset).toArray = ls at hl ⊢
  exact body p e s m below meth c ls B.exec B.bytes B.returns B.notSynchronized hml hC hP va_S.rf hl
def b2i (b : Bool) : Int32 := if b then 1 else 0
theorem b2i_nar (b : Bool) : narrow .boolean (.int (b2i b)) = .int (b2i b) := by cases b <;> rfl
theorem b2i_vn (b : Bool) : vp_nar .boolean (b2i b) = b2i b := by cases b <;> rfl
theorem b2i_f {b : Bool} (h : b2i b = 0) : b = false := by cases b <;> first | rfl | exact absurd h (by decide)
theorem b2i_t {b : Bool} (h : ¬ b2i b = 0) : b = true := by cases b <;> first | rfl | exact absurd rfl h
theorem gE_eq {G : WG} {U : State} (h : KK G U) {i j : Nat} (hi : i < 6) (hj : j < 6) (e : some (gE G i) = some (gE G j)) : i = j := h.2.2.2.2 i j hi hj (Option.some.inj e)
theorem gE_ne {G : WG} {i j : Nat} (e : ¬ some (gE G i) = some (gE G j)) : i ≠ j := fun h => e (by rw [h])
theorem i32_le_of {a b : Int32} (h : ¬ a < b) : b ≤ a := Int32.not_lt.mp h
theorem q_le {x y : Int32} {a b : Nat} (hx : x = nI a) (hy : y = nI b) (ha : a < 2 ^ 31) (hb : b < 2 ^ 31) : x ≤ y ↔ a ≤ b := by
  subst hx; subst hy
  exact nI_leI ha hb
theorem q_lt {x y : Int32} {a b : Nat} (hx : x = nI a) (hy : y = nI b) (ha : a < 2 ^ 31) (hb : b < 2 ^ 31) : x < y ↔ a < b := by
  subst hx; subst hy
  exact nI_ltI ha hb
theorem q_eq {x y : Int32} {a b : Nat} (hx : x = nI a) (hy : y = nI b) (ha : a < 2 ^ 31) (hb : b < 2 ^ 31) : x = y ↔ a = b := by
  subst hx; subst hy
  exact nI_eq ha hb
def isB (n b : Int32) : Bool := decide (0 ≤ n) && decide (n < b)
theorem isB_1 {n b : Int32} (h : n < 0) : isB n b = false := by
  have h2 : ¬ 0 ≤ n := Int32.not_le.mpr h
  simp [isB, h2]
theorem isB_2 {n b : Int32} (h : b ≤ n) : isB n b = false := by
  have h2 : ¬ n < b := Int32.not_lt.mpr h
  simp [isB, h2]
theorem isB_3 {n b : Int32} (h1 : ¬ n < 0) (h2 : ¬ b ≤ n) : isB n b = true := by
  have h3 : 0 ≤ n := Int32.not_lt.mp h1
  have h4 : n < b := Int32.not_le.mp h2
  simp [isB, h3, h4]
theorem isB_nI {n : Int32} {b : Nat} (hb : b < 2 ^ 31) (h : isB n (nI b) = true) : ∃ j : Nat, j < b ∧ n = nI j := by
  have h0 := (Bool.and_eq_true _ _).mp h
  have h1 : 0 ≤ n := of_decide_eq_true h0.1
  have h2 : n < nI b := of_decide_eq_true h0.2
  obtain ⟨j, hj, rfl⟩ := nI_of (Int32.not_lt.mpr h1)
  exact ⟨j, (nI_ltI hj hb).mp h2, rfl⟩
theorem isB_of {n b : Nat} (hb : b < 2 ^ 31) (h : n < b) : isB (nI n) (nI b) = true := by
  have h1 : 0 ≤ nI n := nI_pos' (by omega)
  have h2 : nI n < nI b := nI_lt h hb
  simp [isB, h1, h2]
theorem isB_no {n b : Nat} (hn : n < 2 ^ 31) (hb : b < 2 ^ 31) (h : ¬ n < b) : isB (nI n) (nI b) = false := by
  have h2 : ¬ nI n < nI b := fun q => h ((nI_ltI hn hb).mp q)
  simp [isB, h2]
def isK (k w : Int32) : Bool := decide (w = 0) || decide (k = w) || (decide (k = 3) && decide (w = 1)) || (decide (k = 6) && decide (w = 2))
