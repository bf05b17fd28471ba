/-! DERIVED ROWS over the world by places -/
def CC (G : WG) (own : String) (s : State) (m : MethodId) (args : Array Value) (A : Nat → Prop) : Prop := s.vm.findClass own = some m.cls ∧ (∀ w ∈ GW, w.before args s = true) ∧ KK G s ∧ (∀ q, AA G q → A q) ∧ (∀ q, q < s.heap.size → A q → AA G q)
section RW
variable {p : Program} {l : Launch} {e : Env} {R : Room} {s : State} {m : MethodId} {args : Array Value} {below : List Frame} {meth : Method} {c : Code} {H : Heap} {locs : List Loc} {cells slots : Nat} {Q : State → Prop}
variable {cc : ByteArray} {pc : Nat} {ls : Array Slot} {rest : List Value} {A : Nat → Prop} {G : WG} {S : SS} {own : String}
theorem CC.D (hC : CC G own s m args A) {f : Nat → va_E} : va_D A (wl (gA G) 57 f) := wl_D hC.2.2.1.2.1 (fun k h => hC.2.2.2.1 _ (AA_in G k h))
theorem CC.pre {S : SS} {as : List Value} (hC : CC G own s m args A) (hP : va_P (gD G) clsL (wl (gA G) 57 (fS G S)) H) (hS : va_S A s.heap H locs) : PreS s H (Pw G as S) as := by
  refine ⟨Pw_blind G as S, fun U hU hW => ⟨rfl, by rw [hU]; exact hP, hC.2.2.1.warm hW (fun a h1 h2 => ?_)⟩⟩
  rw [hU]
  exact hS.2.1 a h1 (fun h => h2 (hC.2.2.2.2 a h1 h))
theorem r_get (hx : p.tables.exec = Jvm.exec) (hb : c.code = cc) (hC : CC G own s m args A) (hP : va_P (gD G) clsL (wl (gA G) 57 (fS G S)) H) {C : String} {T : u_T} {N ci index : Nat} (hin : ∀ w ∈ u_ws C T N, w ∈ GW) (k : Nat) (hk : k < 57) {fs : List Value} (he : sh G k (S k) = .inr (ci, fs)) (hc : clsL[ci]? = some (C, T, N)) (j : Nat) (hj : j < N) (hl : Cond.fieldLink own index (T j).1 (T j).2.1 (T j).2.2.1 ∈ GW) {v : Value} (hv : fs[j]? = some v) (hd : decode cc pc = .ok (.getfield index, 3))
    (kk : W p l e R s m args below meth c H locs cells slots Q (F0 m (pc + 3) ls (v :: rest))) : W p l e R s m args below meth c H locs cells slots Q (F0 m pc ls (.ref (gA G k) :: rest)) :=
  va_get (D := gD G) (ci := ci) (C := C) (T := T) (N := N) hx hb hC.2.1 hin hC.1 hC.2.2.1.1 hP k (wl_at hk he) hc j hj (hC.2.1 _ hl) (fun _ h => h) hv hd kk
theorem r_getN (hx : p.tables.exec = Jvm.exec) (hb : c.code = cc) (hC : CC G own s m args A) (hP : va_P (gD G) clsL (wl (gA G) 57 (fS G S)) H) {C host : String} {T : u_T} {N ci index : Nat} (hin : ∀ w ∈ u_ws C T N, w ∈ GW) (k : Nat) (hk : k < 57) {fs : List Value} (he : sh G k (S k) = .inr (ci, fs)) (hc : clsL[ci]? = some (C, T, N)) (j : Nat) (hj : j < N) (hl : Cond.fieldLinkNest own index (T j).1 (T j).2.1 (T j).2.2.1 host ∈ NW) {v : Value} (hv : fs[j]? = some v) (hd : decode cc pc = .ok (.getfield index, 3))
    (kk : W p l e R s m args below meth c H locs cells slots Q (F0 m (pc + 3) ls (v :: rest))) : W p l e R s m args below meth c H locs cells slots Q (F0 m pc ls (.ref (gA G k) :: rest)) :=
  va_getN (D := gD G) (ci := ci) (C := C) (T := T) (N := N) hx hb hC.2.1 hin hC.1 hC.2.2.1.1 hP k (wl_at hk he) hc j hj (va_Nw.use rfl (hC.2.2.1.2.2.1 _ hl)) (fun _ h => h) hv hd kk
theorem r_put (hx : p.tables.exec = Jvm.exec) (hb : c.code = cc) (hC : CC G own s m args A) (hP : va_P (gD G) clsL (wl (gA G) 57 (fS G S)) H) (hS : va_S A s.heap H locs) {C : String} {T : u_T} {N ci index : Nat} (hin : ∀ w ∈ u_ws C T N, w ∈ GW) (ty0 : Nat → FieldType) (hty : ∀ k, k < N → parseFieldDescriptor (T k).2.2.1 = some (ty0 k)) (hnm : ∀ a, a < N → ∀ b, b < N → a ≠ b → (T a).2.1 ≠ (T b).2.1) (k : Nat) (hk : k < 57) {fs : List Value} (he : sh G k (S k) = .inr (ci, fs)) (hc : clsL[ci]? = some (C, T, N)) (j : Nat) (hj : j < N) (hl : Cond.fieldLink own index (T j).1 (T j).2.1 (T j).2.2.1 ∈ GW) (hfin : (T j).2.2.2 = false) (htI : ty0 j = .int) {v : Int32} (he2 : sh G k (upd (S k) j v) = .inr (ci, fs.set j (.int v))) (hlen : j < fs.length) (hd : decode cc pc = .ok (.putfield index, 3))
    (kk : ∀ (H1 : Heap) (locs1 : List Loc), va_P (gD G) clsL (wl (gA G) 57 (fS G (su S k j v))) H1 → va_S A s.heap H1 locs1 → W p l e R s m args below meth c H1 locs1 cells slots Q (F0 m (pc + 3) ls rest)) : W p l e R s m args below meth c H locs cells slots Q (F0 m pc ls (.int v :: .ref (gA G k) :: rest)) := by
  refine va_put (D := gD G) (ci := ci) (v := .int v) (ty := .int) (C := C) (T := T) (N := N) hx hb hC.2.1 hin ty0 hty hnm hC.1 hC.2.2.1.1 hP hC.D hS k (wl_at hk he) hc j hj (hC.2.1 _ hl) (fun _ h => h) hfin (by rw [hty j hj, htI]) rfl rfl hlen hd (fun H1 locs1 hP1 _ hS1 => kk H1 locs1 ?_ hS1)
  rw [wl_set, fS_up he2] at hP1
  exact hP1
theorem r_putN (hx : p.tables.exec = Jvm.exec) (hb : c.code = cc) (hC : CC G own s m args A) (hP : va_P (gD G) clsL (wl (gA G) 57 (fS G S)) H) (hS : va_S A s.heap H locs) {C host : String} {T : u_T} {N ci index : Nat} (hin : ∀ w ∈ u_ws C T N, w ∈ GW) (ty0 : Nat → FieldType) (hty : ∀ k, k < N → parseFieldDescriptor (T k).2.2.1 = some (ty0 k)) (hnm : ∀ a, a < N → ∀ b, b < N → a ≠ b → (T a).2.1 ≠ (T b).2.1) (k : Nat) (hk : k < 57) {fs : List Value} (he : sh G k (S k) = .inr (ci, fs)) (hc : clsL[ci]? = some (C, T, N)) (j : Nat) (hj : j < N) (hl : Cond.fieldLinkNest own index (T j).1 (T j).2.1 (T j).2.2.1 host ∈ NW) (hfin : (T j).2.2.2 = false) (htI : ty0 j = .int) {v : Int32} (he2 : sh G k (upd (S k) j v) = .inr (ci, fs.set j (.int v))) (hlen : j < fs.length) (hd : decode cc pc = .ok (.putfield index, 3))
    (kk : ∀ (H1 : Heap) (locs1 : List Loc), va_P (gD G) clsL (wl (gA G) 57 (fS G (su S k j v))) H1 → va_S A s.heap H1 locs1 → W p l e R s m args below meth c H1 locs1 cells slots Q (F0 m (pc + 3) ls rest)) : W p l e R s m args below meth c H locs cells slots Q (F0 m pc ls (.int v :: .ref (gA G k) :: rest)) := by
  refine va_putN (D := gD G) (ci := ci) (v := .int v) (ty := .int) (C := C) (T := T) (N := N) hx hb hC.2.1 hin ty0 hty hnm hC.1 hC.2.2.1.1 hP hC.D hS k (wl_at hk he) hc j hj (va_Nw.use rfl (hC.2.2.1.2.2.1 _ hl)) (fun _ h => h) hfin (by rw [hty j hj, htI]) rfl rfl hlen hd (fun H1 locs1 hP1 _ hS1 => kk H1 locs1 ?_ hS1)
  rw [wl_set, fS_up he2] at hP1
  exact hP1
theorem r_ild (hx : p.tables.exec = Jvm.exec) (hb : c.code = cc) (hC : CC G own s m args A) (hP : va_P (gD G) clsL (wl (gA G) 57 (fS G S)) H) (k : Nat) (hk : k < 57) {n : Nat} (he : sh G k (S k) = .inl (gI G, n, .inl (S k))) {i : Int32} (j : Nat) (hi : i = nI j) (hj : j < n) (hn : n < 2 ^ 31) (hd : decode cc pc = .ok (.iaload, 1))
    (kk : W p l e R s m args below meth c H locs cells slots Q (F0 m (pc + 1) ls (.int (S k j) :: rest))) : W p l e R s m args below meth c H locs cells slots Q (F0 m pc ls (.int i :: .ref (gA G k) :: rest)) := by
  subst hi
  refine va_iald (D := gD G) hx hb hC.2.2.1.1 hP k 0 (wl_at hk he) rfl (vp_in_nI hj hn) hd ?_
  rw [nI_clamp (Nat.lt_trans hj hn)]
  exact kk
theorem r_zld (hx : p.tables.exec = Jvm.exec) (hb : c.code = cc) (hC : CC G own s m args A) (hP : va_P (gD G) clsL (wl (gA G) 57 (fS G S)) H) (k : Nat) (hk : k < 57) {n : Nat} (he : sh G k (S k) = .inl (gZ G, n, .inl (S k))) {i : Int32} (j : Nat) (hi : i = nI j) (hj : j < n) (hn : n < 2 ^ 31) (hd : decode cc pc = .ok (.baload, 1))
    (kk : W p l e R s m args below meth c H locs cells slots Q (F0 m (pc + 1) ls (.int (S k j) :: rest))) : W p l e R s m args below meth c H locs cells slots Q (F0 m pc ls (.int i :: .ref (gA G k) :: rest)) := by
  subst hi
  refine va_zald (D := gD G) hx hb hC.2.2.1.1 hP k 1 (wl_at hk he) rfl (vp_in_nI hj hn) hd ?_
  rw [nI_clamp (Nat.lt_trans hj hn)]
  exact kk
theorem r_ist (hx : p.tables.exec = Jvm.exec) (hb : c.code = cc) (hC : CC G own s m args A) (hP : va_P (gD G) clsL (wl (gA G) 57 (fS G S)) H) (hS : va_S A s.heap H locs) (k : Nat) (hk : k < 57) {n : Nat} (he : ∀ r : Nat → Int32, sh G k r = .inl (gI G, n, .inl r)) {i v : Int32} (j : Nat) (hi : i = nI j) (hj : j < n) (hn : n < 2 ^ 31) (hd : decode cc pc = .ok (.iastore, 1))
    (kk : ∀ (H1 : Heap) (locs1 : List Loc), va_P (gD G) clsL (wl (gA G) 57 (fS G (su S k j v))) H1 → va_S A s.heap H1 locs1 → W p l e R s m args below meth c H1 locs1 cells slots Q (F0 m (pc + 1) ls rest)) : W p l e R s m args below meth c H locs cells slots Q (F0 m pc ls (.int v :: .int i :: .ref (gA G k) :: rest)) := by
  subst hi
  refine va_iast (D := gD G) hx hb hC.2.2.1.1 hP hC.D hS k 0 (wl_at hk (he (S k))) rfl (vp_in_nI hj hn) hd (fun H1 locs1 hP1 _ hS1 => kk H1 locs1 ?_ hS1)
  rw [nI_clamp (Nat.lt_trans hj hn), wl_set, fS_up (he _)] at hP1
  exact hP1
theorem r_zst (hx : p.tables.exec = Jvm.exec) (hb : c.code = cc) (hC : CC G own s m args A) (hP : va_P (gD G) clsL (wl (gA G) 57 (fS G S)) H) (hS : va_S A s.heap H locs) (k : Nat) (hk : k < 57) {n : Nat} (he : ∀ r : Nat → Int32, sh G k r = .inl (gZ G, n, .inl r)) {i v : Int32} (j : Nat) (hi : i = nI j) (hj : j < n) (hn : n < 2 ^ 31) (hv : vp_nar .boolean v = v) (hd : decode cc pc = .ok (.bastore, 1))
    (kk : ∀ (H1 : Heap) (locs1 : List Loc), va_P (gD G) clsL (wl (gA G) 57 (fS G (su S k j v))) H1 → va_S A s.heap H1 locs1 → W p l e R s m args below meth c H1 locs1 cells slots Q (F0 m (pc + 1) ls rest)) : W p l e R s m args below meth c H locs cells slots Q (F0 m pc ls (.int v :: .int i :: .ref (gA G k) :: rest)) := by
  subst hi
  refine va_zast (D := gD G) hx hb hC.2.2.1.1 hP hC.D hS k 1 (wl_at hk (he (S k))) rfl (vp_in_nI hj hn) hd (fun H1 locs1 hP1 _ hS1 => kk H1 locs1 ?_ hS1)
  rw [hv, nI_clamp (Nat.lt_trans hj hn), wl_set, fS_up (he _)] at hP1
  exact hP1
theorem r_text (hx : p.tables.exec = Jvm.exec) (hb : c.code = cc) (hC : CC G own s m args A) (hP : va_P (gD G) clsL (wl (gA G) 57 (fS G S)) H) {i : Int32} (j : Nat) (hi : i = nI j) (hj : j < 4) (hd : decode cc pc = .ok (.aaload, 1))
    (kk : W p l e R s m args below meth c H locs cells slots Q (F0 m (pc + 1) ls (.ref (gA G (11 + 4 * j)) :: rest))) : W p l e R s m args below meth c H locs cells slots Q (F0 m pc ls (.int i :: .ref (gA G 2) :: rest)) := by
  subst hi
  refine va_aldq (D := gD G) (C := "EndingsLab$Text") hx hb hC.2.2.1.1 hP 2 2 (wl_at (by decide) rfl) rfl (vp_in_nI hj (by decide)) hd ?_
  rw [nI_clamp (Nat.lt_trans hj (by decide))]
  exact kk
theorem r_frame (hx : p.tables.exec = Jvm.exec) (hb : c.code = cc) (hC : CC G own s m args A) (hP : va_P (gD G) clsL (wl (gA G) 57 (fS G S)) H) {i : Int32} (j : Nat) (hi : i = nI j) (hj : j < 6) (hd : decode cc pc = .ok (.aaload, 1))
    (kk : W p l e R s m args below meth c H locs cells slots Q (F0 m (pc + 1) ls (.ref (gA G (27 + 2 * j)) :: rest))) : W p l e R s m args below meth c H locs cells slots Q (F0 m pc ls (.int i :: .ref (gA G 3) :: rest)) := by
  subst hi
  refine va_aldq (D := gD G) (C := "EndingsLab$Frame") hx hb hC.2.2.1.1 hP 3 3 (wl_at (by decide) rfl) rfl (vp_in_nI hj (by decide)) hd ?_
  rw [nI_clamp (Nat.lt_trans hj (by decide))]
  exact kk
theorem r_enum (hx : p.tables.exec = Jvm.exec) (hb : c.code = cc) (hC : CC G own s m args A) (hS : va_S A s.heap H locs) (i : Nat) (hi : i < 6) {index : Nat} (hl : Cond.fieldLink own index "EndingsLab$Ending" (enL.getD i "") "LEndingsLab$Ending;" ∈ GW) (hd : decode cc pc = .ok (.getstatic index, 3))
    (kk : W p l e R s m args below meth c H locs cells slots Q (F0 m (pc + 3) ls (.ref (gE G i) :: rest))) : W p l e R s m args below meth c H locs cells slots Q (F0 m pc ls rest) := by
  have hZ := ((hC.2.2.1.2.2.2).1 i hi).1
  obtain ⟨cf, kf, fi, f, a, cell, h1, h2, h3, h4, h5, h6, h7, h8⟩ := hZ
  have hlt := (Array.getElem?_eq_some_iff.mp h5).1
  exact va_gets (C := "EndingsLab$Ending") hx hb ⟨cf, kf, fi, f, a, cell, h1, h2, h3, h4, h5, h6, h7, fun z => h8 (hC.2.2.2.2 a hlt z)⟩ hS hC.1 (hC.2.1 _ hl) (fun _ h => h) hd kk

theorem r_recv (hC : CC G own s m args A) (hP : va_P (gD G) clsL (wl (gA G) 57 (fS G S)) H) {k ci : Nat} {fs : List Value} {C : String} {T : u_T} {N : Nat} (hk : k < 57) (he : sh G k (S k) = .inr (ci, fs)) (hc : clsL[ci]? = some (C, T, N)) : ∃ cell : Cell, H[gA G k]? = some cell ∧ cell.vm.isStatics = false ∧ s.vm.findClass C = some cell.cls :=
  va_recv hC.2.2.1.1 hP hc (wl_at hk he)
theorem r_runV {y : MethodName} {bb : ByteArray} {n nL h idx np : Nat} {rt : Option FieldType} {As : List Value} {Qc : Array Value → State → Outcome → State → Prop} (hx : p.tables.exec = Jvm.exec) (hb : c.code = cc) (hml : c.maxLocals = nL) (hC : CC G own s m args A) (hP : va_P (gD G) clsL (wl (gA G) 57 (fS G S)) H) (hS : va_S A s.heap H locs) {k ci : Nat} {fs : List Value} {T : u_T} {N : Nat} (hk : k < 57) (he : sh G k (S k) = .inr (ci, fs)) (hc : clsL[ci]? = some (y.cls, T, N)) (hM : Met l y (wsM y bb n rt) (rmF h) (Pw G (.ref (gA G k) :: As) S) Qc 0 0 (AA G)) (hl : Cond.methodLink own idx y ∈ GW) (him : Cond.instanceMethod y ∈ GW) (hse : Cond.selects y.cls y y ∈ GW) (hini : Cond.initialized y.cls ∈ GW) (hco : Cond.code y bb n rt ∈ GW) (hy : y.cls ≠ "java/lang/invoke/MethodHandle" ∧ y.cls ≠ "java/lang/invoke/VarHandle" ∧ (parseMethodDescriptor y.desc).map (fun d => d.parameters.length) = some np) (hR : h + 1 ≤ R.frames ∧ 8 + (n + 11) + 40 * h ≤ R.locals) (hnp : As.length = np) (hls : ls.size = nL) (hrs : (rest.map fun v => v.category).sum ≤ 8) (hd : decode cc pc = .ok (.invokevirtual idx, 3)) (hcs : cells ≤ R.cells ∧ slots ≤ R.slots) :
    va_Run p l e R s m args below meth c H locs cells slots 0 0 (F0 m pc ls (As.reverse ++ .ref (gA G k) :: rest)) rest (Qc (Value.ref (gA G k) :: As).toArray) (AA G) := by
  have hGI : GoodIn GW (wsM y bb n rt) := good_gw (l := []) hco
  have hcb : CallB R s args own idx y bb n rt (wsM y bb n rt) (rmF h) 0 0 np := callB_of np hC.2.1 hGI rfl rfl rfl (hC.2.1 _ hini) (hC.2.1 _ hl) hy hR
  exact va_runV (C := y.cls) ⟨hx, hb, hml, hC.1, hC.2.1⟩ hM ⟨hcb, hC.2.1 _ him, hC.2.1 _ hse⟩ ⟨Pw_blind _ _ _, r_recv hC hP hk he hc, (hC.pre hP hS).2⟩ rfl hnp hls rfl (lv_room hrs) hd hcs
theorem r_runS {y : MethodName} {bb : ByteArray} {n nL h idx np : Nat} {rt : Option FieldType} {As : List Value} {Qc : Array Value → State → Outcome → State → Prop} (hx : p.tables.exec = Jvm.exec) (hb : c.code = cc) (hml : c.maxLocals = nL) (hC : CC G own s m args A) (hP : va_P (gD G) clsL (wl (gA G) 57 (fS G S)) H) (hS : va_S A s.heap H locs) (hM : Met l y (wsM y bb n rt) (rmF h) (Pw G As S) Qc 0 0 (AA G)) (hl : Cond.methodLink own idx y ∈ GW) (hst : Cond.static y ∈ GW) (hini : Cond.initialized y.cls ∈ GW) (hco : Cond.code y bb n rt ∈ GW) (hy : y.cls ≠ "java/lang/invoke/MethodHandle" ∧ y.cls ≠ "java/lang/invoke/VarHandle" ∧ (parseMethodDescriptor y.desc).map (fun d => d.parameters.length) = some np) (hR : h + 1 ≤ R.frames ∧ 8 + (n + 11) + 40 * h ≤ R.locals) (hnp : As.length = np) (hls : ls.size = nL) (hrs : (rest.map fun v => v.category).sum ≤ 8) (hd : decode cc pc = .ok (.invokestatic idx, 3)) (hcs : cells ≤ R.cells ∧ slots ≤ R.slots) :
    va_Run p l e R s m args below meth c H locs cells slots 0 0 (F0 m pc ls (As.reverse ++ rest)) rest (Qc As.toArray) (AA G) := by
  have hGI : GoodIn GW (wsM y bb n rt) := good_gw (l := []) hco
  have hcb : CallB R s args own idx y bb n rt (wsM y bb n rt) (rmF h) 0 0 np := callB_of np hC.2.1 hGI rfl rfl rfl (hC.2.1 _ hini) (hC.2.1 _ hl) hy hR
  exact va_runS ⟨hx, hb, hml, hC.1, hC.2.1⟩ hM ⟨hcb, hC.2.1 _ hst⟩ (hC.pre hP hS) rfl hnp hls rfl (lv_room hrs) hd hcs
theorem r_runSN {y : MethodName} {bb : ByteArray} {n nL h idx np : Nat} {rt : Option FieldType} {As : List Value} {Qc : Array Value → State → Outcome → State → Prop} {host : String} (hx : p.tables.exec = Jvm.exec) (hb : c.code = cc) (hml : c.maxLocals = nL) (hC : CC G own s m args A) (hP : va_P (gD G) clsL (wl (gA G) 57 (fS G S)) H) (hS : va_S A s.heap H locs) (hM : Met l y (wsM y bb n rt) (rmF h) (Pw G As S) Qc 0 0 (AA G)) (hl : Cond.methodLinkNest own idx y host ∈ NW) (hst : Cond.static y ∈ GW) (hini : Cond.initialized y.cls ∈ GW) (hco : Cond.code y bb n rt ∈ GW) (hy : y.cls ≠ "java/lang/invoke/MethodHandle" ∧ y.cls ≠ "java/lang/invoke/VarHandle" ∧ (parseMethodDescriptor y.desc).map (fun d => d.parameters.length) = some np) (hR : h + 1 ≤ R.frames ∧ 8 + (n + 11) + 40 * h ≤ R.locals) (hnp : As.length = np) (hls : ls.size = nL) (hrs : (rest.map fun v => v.category).sum ≤ 8) (hd : decode cc pc = .ok (.invokestatic idx, 3)) (hcs : cells ≤ R.cells ∧ slots ≤ R.slots) :
    va_Run p l e R s m args below meth c H locs cells slots 0 0 (F0 m pc ls (As.reverse ++ rest)) rest (Qc As.toArray) (AA G) := by
  have hGI : GoodIn GW (wsM y bb n rt) := good_gw (l := []) hco
  have hcn := va_cnB (R := R) (host := host) (index := idx) np hC.2.1 hGI rfl (rm := rmF h) rfl rfl (hC.2.2.1.2.2.1 _ hl) (hC.2.1 _ hini) hy hR
  exact va_runSN ⟨hx, hb, hml, hC.1, hC.2.1⟩ hM ⟨hcn, hC.2.1 _ hst, trivial⟩ (hC.pre hP hS) rfl hnp hls rfl (lv_room hrs) hd hcs
theorem r_i {a : Array Value} {st0 : List Value} {post : Int32 → SS → Prop} (hC : CC G own s m args A) (hS : va_S A s.heap H locs) (hr : va_Run p l e R s m args below meth c H locs cells slots 0 0 (F0 m pc ls st0) rest (va_Qi post (WD G) (AA G) a) (AA G))
    (kk : ∀ (r : Int32) (S1 : SS) (H1 : Heap) (locs1 : List Loc), post r S1 → va_P (gD G) clsL (wl (gA G) 57 (fS G S1)) H1 → va_S A s.heap H1 locs1 → W p l e R s m args below meth c H1 locs1 cells slots Q (F0 m (pc + 3) ls (.int r :: rest))) : W p l e R s m args below meth c H locs cells slots Q (F0 m pc ls st0) :=
  va_calli hr hS (fun q _ h => hC.2.2.2.1 q h) hC.2.2.2.1 (fun r u t H1 locs1 ht _ hw hB _ _ hS1 => kk r u H1 locs1 hw (by rw [← ht]; exact hB.1) hS1)
theorem r_v {a : Array Value} {st0 : List Value} {post : SS → Prop} (hC : CC G own s m args A) (hS : va_S A s.heap H locs) (hr : va_Run p l e R s m args below meth c H locs cells slots 0 0 (F0 m pc ls st0) rest (va_Qv post (WD G) (AA G) a) (AA G))
    (kk : ∀ (S1 : SS) (H1 : Heap) (locs1 : List Loc), post S1 → va_P (gD G) clsL (wl (gA G) 57 (fS G S1)) H1 → va_S A s.heap H1 locs1 → W p l e R s m args below meth c H1 locs1 cells slots Q (F0 m (pc + 3) ls rest)) : W p l e R s m args below meth c H locs cells slots Q (F0 m pc ls st0) :=
  va_callv hr hS (fun q _ h => hC.2.2.2.1 q h) hC.2.2.2.1 (fun u t H1 locs1 ht _ hw hB _ _ hS1 => kk u H1 locs1 hw (by rw [← ht]; exact hB.1) hS1)
theorem r_e {a : Array Value} {st0 : List Value} {post : Nat → SS → Prop} (hC : CC G own s m args A) (hS : va_S A s.heap H locs) (hr : va_Run p l e R s m args below meth c H locs cells slots 0 0 (F0 m pc ls st0) rest (va_Qr (S := Nat × SS) (fun u => u.1 < 6 ∧ post u.1 u.2) (fun u b t => b = gE G u.1 ∧ WD G u.2 t) (AA G) a) (AA G))
    (kk : ∀ (i : Nat) (S1 : SS) (H1 : Heap) (locs1 : List Loc), i < 6 → post i S1 → va_P (gD G) clsL (wl (gA G) 57 (fS G S1)) H1 → va_S A s.heap H1 locs1 → W p l e R s m args below meth c H1 locs1 cells slots Q (F0 m (pc + 3) ls (.ref (gE G i) :: rest))) : W p l e R s m args below meth c H locs cells slots Q (F0 m pc ls st0) :=
  va_callr hr hS (fun q _ h => hC.2.2.2.1 q h) hC.2.2.2.1 (fun u b t H1 locs1 ht _ hw hB _ _ hS1 => by
    obtain ⟨rfl, hB1, hB2⟩ := hB
    exact kk u.1 u.2 H1 locs1 hw.1 hw.2 (by rw [← ht]; exact hB1) hS1)
theorem r_r {a : Array Value} {st0 : List Value} {post : Nat → SS → Prop} (hC : CC G own s m args A) (hS : va_S A s.heap H locs) (hr : va_Run p l e R s m args below meth c H locs cells slots 0 0 (F0 m pc ls st0) rest (va_Qr (S := Nat × SS) (fun u => post u.1 u.2) (fun u b t => b = gA G u.1 ∧ WD G u.2 t) (AA G) a) (AA G))
    (kk : ∀ (i : Nat) (S1 : SS) (H1 : Heap) (locs1 : List Loc), post i S1 → va_P (gD G) clsL (wl (gA G) 57 (fS G S1)) H1 → va_S A s.heap H1 locs1 → W p l e R s m args below meth c H1 locs1 cells slots Q (F0 m (pc + 3) ls (.ref (gA G i) :: rest))) : W p l e R s m args below meth c H locs cells slots Q (F0 m pc ls st0) :=
  va_callr hr hS (fun q _ h => hC.2.2.2.1 q h) hC.2.2.2.1 (fun u b t H1 locs1 ht _ hw hB _ _ hS1 => by
    obtain ⟨rfl, hB1, hB2⟩ := hB
    exact kk u.1 u.2 H1 locs1 hw (by rw [← ht]; exact hB1) hS1)

theorem CC.wd (hC : CC G own s m args A) (hP : va_P (gD G) clsL (wl (gA G) 57 (fS G S)) H) (hS : va_S A s.heap H locs) {t : State} (ht : t.heap = H) (hW : s.WarmedH t.vm) : WD G S t := by
  refine ⟨by rw [ht]; exact hP, hC.2.2.1.warm hW (fun a h1 h2 => ?_)⟩
  rw [ht]
  exact hS.2.1 a h1 (fun h => h2 (hC.2.2.2.2 a h1 h))
end RW
section RE
variable {p : Program} {l : Launch} {e : Env} {R : Room} {s : State} {m : MethodId} {args : Array Value} {below : List Frame} {meth : Method} {c : Code} {H : Heap} {locs : List Loc} {cells slots : Nat}
variable {cc : ByteArray} {pc : Nat} {ls : Array Slot} {G : WG} {S : SS} {own : String}
theorem e_i {v : Int32} {post : Int32 → SS → Prop} (hx : p.tables.exec = Jvm.exec) (hb : c.code = cc) (hr : meth.sig.returnType = some .int) (hlk : meth.locks = false) (hC : CC G own s m args (AA G)) (hP : va_P (gD G) clsL (wl (gA G) 57 (fS G S)) H) (hS : va_S (AA G) s.heap H locs) (hd : decode cc pc = .ok (.ireturn, 1)) (hp : post v S) : W p l e R s m args below meth c H locs cells slots (MQ below (va_Qi post (WD G) (AA G)) args s cells slots (AA G)) (F0 m pc ls [.int v]) :=
  W.iret (v := v) hx hb hr (fun t ht hW => ⟨⟨v, S, rfl, hp, hC.wd hP hS ht hW⟩, hS.F ht⟩) hS.2.2 hd hlk
theorem e_z {v : Int32} {post : Int32 → SS → Prop} (hx : p.tables.exec = Jvm.exec) (hb : c.code = cc) (hr : meth.sig.returnType = some .boolean) (hlk : meth.locks = false) (hC : CC G own s m args (AA G)) (hP : va_P (gD G) clsL (wl (gA G) 57 (fS G S)) H) (hS : va_S (AA G) s.heap H locs) (hd : decode cc pc = .ok (.ireturn, 1)) (hn : narrow .boolean (.int v) = .int v) (hp : post v S) : W p l e R s m args below meth c H locs cells slots (MQ below (va_Qi post (WD G) (AA G)) args s cells slots (AA G)) (F0 m pc ls [.int v]) :=
  W.zret (v := v) hx hb hr hn (fun t ht hW => ⟨⟨v, S, rfl, hp, hC.wd hP hS ht hW⟩, hS.F ht⟩) hS.2.2 hd hlk
theorem e_v {post : SS → Prop} (hx : p.tables.exec = Jvm.exec) (hb : c.code = cc) (hr : meth.sig.returnType = none) (hlk : meth.locks = false) (hC : CC G own s m args (AA G)) (hP : va_P (gD G) clsL (wl (gA G) 57 (fS G S)) H) (hS : va_S (AA G) s.heap H locs) (hd : decode cc pc = .ok (.return_, 1)) (hp : post S) : W p l e R s m args below meth c H locs cells slots (MQ below (va_Qv post (WD G) (AA G)) args s cells slots (AA G)) (F0 m pc ls []) :=
  W.vret hx hb hr (fun t ht hW => ⟨⟨S, rfl, hp, hC.wd hP hS ht hW⟩, hS.F ht⟩) hS.2.2 hd hlk
theorem e_e {i : Nat} {n : String} {post : Nat → SS → Prop} (hx : p.tables.exec = Jvm.exec) (hb : c.code = cc) (hr : meth.sig.returnType = some (.object n)) (hlk : meth.locks = false) (hC : CC G own s m args (AA G)) (hP : va_P (gD G) clsL (wl (gA G) 57 (fS G S)) H) (hS : va_S (AA G) s.heap H locs) (hd : decode cc pc = .ok (.areturn, 1)) (hi : i < 6) (hp : post i S) : W p l e R s m args below meth c H locs cells slots (MQ below (va_Qr (S := Nat × SS) (fun u => u.1 < 6 ∧ post u.1 u.2) (fun u b t => b = gE G u.1 ∧ WD G u.2 t) (AA G)) args s cells slots (AA G)) (F0 m pc ls [.ref (gE G i)]) :=
  W.aret (v := .ref (gE G i)) hx hb hr (Or.inl ⟨_, rfl⟩) (Or.inr ⟨_, rfl⟩) (fun t ht hW => ⟨⟨(i, S), gE G i, rfl, ⟨hi, hp⟩, rfl, hC.wd hP hS ht hW⟩, hS.F ht⟩) hS.2.2 hd hlk
theorem e_r {i : Nat} {n : String} {post : Nat → SS → Prop} (hx : p.tables.exec = Jvm.exec) (hb : c.code = cc) (hr : meth.sig.returnType = some (.object n)) (hlk : meth.locks = false) (hC : CC G own s m args (AA G)) (hP : va_P (gD G) clsL (wl (gA G) 57 (fS G S)) H) (hS : va_S (AA G) s.heap H locs) (hd : decode cc pc = .ok (.areturn, 1)) (hp : post i S) : W p l e R s m args below meth c H locs cells slots (MQ below (va_Qr (S := Nat × SS) (fun u => post u.1 u.2) (fun u b t => b = gA G u.1 ∧ WD G u.2 t) (AA G)) args s cells slots (AA G)) (F0 m pc ls [.ref (gA G i)]) :=
  W.aret (v := .ref (gA G i)) hx hb hr (Or.inl ⟨_, rfl⟩) (Or.inr ⟨_, rfl⟩) (fun t ht hW => ⟨⟨(i, S), gA G i, rfl, hp, rfl, hC.wd hP hS ht hW⟩, hS.F ht⟩) hS.2.2 hd hlk
end RE
/-- contracts: an int, nothing, a constant of the enum, a cell -/
def Ci (l : Launch) (y : MethodName) (bb : ByteArray) (n : Nat) (rt : Option FieldType) (h : Nat) (G : WG) (as : List Value) (S : SS) (post : Int32 → SS → Prop) : Prop := Met l y (wsM y bb n rt) (rmF h) (Pw G as S) (va_Qi post (WD G) (AA G)) 0 0 (AA G)
def Cv (l : Launch) (y : MethodName) (bb : ByteArray) (n : Nat) (h : Nat) (G : WG) (as : List Value) (S : SS) (post : SS → Prop) : Prop := Met l y (wsM y bb n none) (rmF h) (Pw G as S) (va_Qv post (WD G) (AA G)) 0 0 (AA G)
def Ce (l : Launch) (y : MethodName) (bb : ByteArray) (n : Nat) (h : Nat) (G : WG) (as : List Value) (S : SS) (post : Nat → SS → Prop) : Prop := Met l y (wsM y bb n (some (.object "EndingsLab$Ending"))) (rmF h) (Pw G as S) (va_Qr (S := Nat × SS) (fun u => u.1 < 6 ∧ post u.1 u.2) (fun u b t => b = gE G u.1 ∧ WD G u.2 t) (AA G)) 0 0 (AA G)
def Cr (l : Launch) (y : MethodName) (bb : ByteArray) (n : Nat) (rt : Option FieldType) (h : Nat) (G : WG) (as : List Value) (S : SS) (post : Nat → SS → Prop) : Prop := Met l y (wsM y bb n rt) (rmF h) (Pw G as S) (va_Qr (S := Nat × SS) (fun u => post u.1 u.2) (fun u b t => b = gA G u.1 ∧ WD G u.2 t) (AA G)) 0 0 (AA G)

