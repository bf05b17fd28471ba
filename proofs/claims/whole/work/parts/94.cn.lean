/-! THE CONSTRUCTORS' RULES: worlds as lists -/
abbrev tq (cI cZ cT cF : ClassId) : List (ClassId × FieldType) := [(cI, .int), (cZ, .boolean), (cT, .object "EndingsLab$Text"), (cF, .object "EndingsLab$Frame")]
def NA (U : State) : Prop := (∀ w ∈ NW, va_Nw w U) ∧ va_AO "EndingsLab$Text" U ∧ va_AO "EndingsLab$Frame" U
theorem NA.warm {s U : State} (h : NA s) (hW : s.WarmedH U.vm) : NA U := ⟨fun w hw => nw_warm (List.all_eq_true.mp nw_nest w hw) hW (h.1 w hw), h.2.1.moved hW.alike, h.2.2.moved hW.alike⟩
theorem NA.same {s U : State} (h : NA s) (hv : s.vm = U.vm) : NA U := by
  have ha : s.vm.Alike U.vm := by rw [hv]; exact Vm.Alike.refl _
  exact ⟨fun w hw => nw_same (List.all_eq_true.mp nw_nest w hw) hv (h.1 w hw), h.2.1.moved ha, h.2.2.moved ha⟩
def CP (D : va_G) (cI cZ cT cF : ClassId) (w : va_W) (sz : Nat) (U : State) : Prop := U.heap.size = sz ∧ va_P D clsL w U.heap ∧ va_K D clsL (tq cI cZ cT cF) U ∧ va_D (fun _ => True) w ∧ NA U
theorem cp_pre {s : State} {H : Heap} {D : va_G} {cI cZ cT cF : ClassId} {w : va_W} {A : Nat → Prop} {h0 : Nat} (hK : va_K D clsL (tq cI cZ cT cF) s) (hN : NA s) (hP : va_P D clsL w H) (hD : va_D A w) : PreS s H (va_Pc [.ref h0] (CP D cI cZ cT cF w H.size)) [.ref h0] :=
  ⟨fun a U g mk q => ⟨q.1, q.2.1, q.2.2.1, va_K.moved (u := U) (U := U.calling g mk a) (Vm.Alike.refl U.vm) q.2.2.2.1, q.2.2.2.2.1, q.2.2.2.2.2.same (U := U.calling g mk a) rfl⟩,
   fun U hU hW => ⟨rfl, by rw [hU], by rw [hU]; exact hP, va_K.moved hW.alike hK, hD.weaken (fun _ _ _ _ => trivial), hN.warm hW⟩⟩
theorem mkc (l : Launch) {y : MethodName} {bb : ByteArray} {n mc ms sz h0 : Nat} {R : Room} {D : va_G} {cI cZ cT cF : ClassId} {w : va_E} {Qc : Array Value → State → Outcome → State → Prop} (hy : plainName y.cls = true) (hi : y.name = "<init>") (hn : 1 ≤ n)
    (body : ∀ (p : Program) (e : Env) (s : State) (m : MethodId) (below : List Frame) (meth : Method) (c : Code) (ls : Array Slot), p.tables.exec = Jvm.exec → c.code = bb → meth.sig.returnType = none → meth.locks = false → c.maxLocals = n → s.vm.findClass y.cls = some m.cls → (∀ w ∈ GW, w.before #[Value.ref h0] s = true) → meth.name = "<init>" → va_K D clsL (tq cI cZ cT cF) s → NA s → va_P D clsL [(h0, w)] s.heap → va_D (va_A [(h0, w)] sz) [(h0, w)] → (∀ q, s.heap.size ≤ q → va_A [(h0, w)] sz q) → va_S (va_A [(h0, w)] sz) s.heap s.heap [] → lv_has ls n [(0, .ref h0)] →
      W p l e R s m #[Value.ref h0] below meth c s.heap [] 0 0 (MQ below Qc #[Value.ref h0] s mc ms (va_A [(h0, w)] sz)) (F0 m 0 ls [])) : Met l y (wsM y bb n none) R (va_Pc [.ref h0] (CP D cI cZ cT cF [(h0, w)] sz)) Qc mc ms (va_A [(h0, w)] sz) := by
  refine Met.ofW (cc := bb) (maxL := n) (ret := none) hy rfl ?_
  intro p e s m args below meth c s₁ B hml hv
  obtain ⟨rfl, hsz, hP, hK, hD0, hN⟩ := hv
  subst hsz
  have hl := lv_entry ([.ref h0]) (n := n) hn
  rw [lg_entry_eq]
  generalize (lg_sl ([.ref h0]) ++ List.replicate (n - (lg_sl ([.ref h0])).length) Slot.unset).toArray = ls at hl ⊢
  exact body p e s m below meth c ls B.exec B.bytes B.returns B.notSynchronized hml (findClass_of_methodNamed B.named) (fun w h => atoms_spec (ws := wsM y bb n none) B.pre w (List.mem_cons_of_mem _ h)) ((name_of_methodNamed B.named B.method).1.trans hi) hK hN hP hD0.self (fun q h => Or.inr h) va_S.rf hl
theorem c_OB_init_in : Cond.code objectInit ⟨#[0xb1]⟩ 1 none ∈ GW := gw_t (List.mem_of_getElem? (i := 20) rfl) rfl
section CN
variable {p : Program} {l : Launch} {e : Env} {R : Room} {s : State} {m : MethodId} {args : Array Value} {below : List Frame} {meth : Method} {c : Code} {H H0 : Heap} {locs : List Loc} {cells slots : Nat} {Q : State → Prop}
variable {cc : ByteArray} {pc : Nat} {ls : Array Slot} {rest : List Value} {A : Nat → Prop} {D : va_G} {ws : va_W} {cI cZ cT cF : ClassId}
theorem tq_at {x : ClassId × FieldType} {k : Nat} (h : (tq cI cZ cT cF)[k]? = some x) (y : ClassId × FieldType) : (tq cI cZ cT cF ++ [y])[k]? = some x := by
  have hk : k < (tq cI cZ cT cF).length := (List.getElem?_eq_some_iff.mp h).1
  rw [List.getElem?_append_left hk]
  exact h
theorem n_int (hx : p.tables.exec = Jvm.exec) (hb : c.code = cc) (harr : (Cond.arrayClass .int).before args s = true) (hK : va_K D clsL (tq cI cZ cT cF) s) (hP : va_P D clsL ws H) (hD : va_D A ws) (hS : va_S A H0 H locs) (hA : ∀ q, H0.size ≤ q → A q) {n : Int32} {N : Nat} (hn : ¬ n < 0) (hN : n.toNatClampNeg = N) (hbytes : N * componentBytes .int ≤ 536870912) (hcells : cells + 1 ≤ R.cells) (hslots : slots + N ≤ R.slots) (hd : decode cc pc = .ok (.newarray .int, 2))
    (kk : ∀ (q : Nat) (H1 : Heap), va_P D clsL (ws ++ [(q, .inl (cI, N, .inl (fun _ => 0)))]) H1 → va_D A (ws ++ [(q, .inl (cI, N, .inl (fun _ => 0)))]) → va_S A H0 H1 locs → W p l e R s m args below meth c H1 locs (cells + 1) (slots + N) Q (F0 m (pc + 2) ls (.ref q :: rest))) : W p l e R s m args below meth c H locs cells slots Q (F0 m pc ls (.int n :: rest)) := by
  refine va_newa (atype := .int) (ty := .int) (a0 := (N, .inl (fun _ => 0))) hx hb harr rfl hK hP hD hS hA (fun _ => rfl) hn hN hbytes hcells hslots hd (fun q cA H1 hK1 hP1 hD1 hS1 => ?_)
  have h1 := va_nm_int (hK1.2 0 (cI, .int) (tq_at rfl _)).2
  have h2 := va_nm_int (hK1.2 4 (cA, .int) rfl).2
  have h3 : cA = cI := Option.some.inj (h2.symm.trans h1)
  subst h3
  exact kk q H1 hP1 hD1 hS1
theorem n_boolean (hx : p.tables.exec = Jvm.exec) (hb : c.code = cc) (harr : (Cond.arrayClass .boolean).before args s = true) (hK : va_K D clsL (tq cI cZ cT cF) s) (hP : va_P D clsL ws H) (hD : va_D A ws) (hS : va_S A H0 H locs) (hA : ∀ q, H0.size ≤ q → A q) {n : Int32} {N : Nat} (hn : ¬ n < 0) (hN : n.toNatClampNeg = N) (hbytes : N * componentBytes .boolean ≤ 536870912) (hcells : cells + 1 ≤ R.cells) (hslots : slots + N ≤ R.slots) (hd : decode cc pc = .ok (.newarray .boolean, 2))
    (kk : ∀ (q : Nat) (H1 : Heap), va_P D clsL (ws ++ [(q, .inl (cZ, N, .inl (fun _ => 0)))]) H1 → va_D A (ws ++ [(q, .inl (cZ, N, .inl (fun _ => 0)))]) → va_S A H0 H1 locs → W p l e R s m args below meth c H1 locs (cells + 1) (slots + N) Q (F0 m (pc + 2) ls (.ref q :: rest))) : W p l e R s m args below meth c H locs cells slots Q (F0 m pc ls (.int n :: rest)) := by
  refine va_newa (atype := .boolean) (ty := .boolean) (a0 := (N, .inl (fun _ => 0))) hx hb harr rfl hK hP hD hS hA (fun _ => rfl) hn hN hbytes hcells hslots hd (fun q cA H1 hK1 hP1 hD1 hS1 => ?_)
  have h1 := va_nm_boolean (hK1.2 1 (cZ, .boolean) (tq_at rfl _)).2
  have h2 := va_nm_boolean (hK1.2 4 (cA, .boolean) rfl).2
  have h3 : cA = cZ := Option.some.inj (h2.symm.trans h1)
  subst h3
  exact kk q H1 hP1 hD1 hS1
theorem nq_TE (hx : p.tables.exec = Jvm.exec) (hb : c.code = cc) {own : String} {index : Nat} (hown : s.vm.findClass own = some m.cls) (hcl : (Cond.classLink own index "EndingsLab$Text").before args s = true) (hNA : NA s) (hK : va_K D clsL (tq cI cZ cT cF) s) (hP : va_P D clsL ws H) (hD : va_D A ws) (hS : va_S A H0 H locs) (hA : ∀ q, H0.size ≤ q → A q) {n : Int32} {N : Nat} (hn : ¬ n < 0) (hN : n.toNatClampNeg = N) (hbytes : N * 4 ≤ 536870912) (hcells : cells + 1 ≤ R.cells) (hslots : slots + N ≤ R.slots) (hd : decode cc pc = .ok (.anewarray index, 3))
    (kk : ∀ (q : Nat) (H1 : Heap), va_P D clsL (ws ++ [(q, .inl (cT, N, .inr (.inr (.inr (.inr (fun _ => none))))))]) H1 → va_D A (ws ++ [(q, .inl (cT, N, .inr (.inr (.inr (.inr (fun _ => none))))))]) → va_S A H0 H1 locs → W p l e R s m args below meth c H1 locs (cells + 1) (slots + N) Q (F0 m (pc + 3) ls (.ref q :: rest))) : W p l e R s m args below meth c H locs cells slots Q (F0 m pc ls (.int n :: rest)) := by
  refine va_newq hx hb hown hcl hNA.2.1 hK hP hD hS hA hn hN hbytes hcells hslots hd (fun q cA H1 hK1 hP1 hD1 hS1 => ?_)
  have h1 := va_nmO (nm := "[LEndingsLab$Text;") (hK1.2 2 (cT, .object "EndingsLab$Text") (tq_at rfl _)).2 (by decide +kernel)
  have h2 := va_nmO (nm := "[LEndingsLab$Text;") (hK1.2 4 (cA, .object "EndingsLab$Text") rfl).2 (by decide +kernel)
  have h3 : cA = cT := Option.some.inj (h2.symm.trans h1)
  subst h3
  exact kk q H1 hP1 hD1 hS1
theorem nq_FR (hx : p.tables.exec = Jvm.exec) (hb : c.code = cc) {own : String} {index : Nat} (hown : s.vm.findClass own = some m.cls) (hcl : (Cond.classLink own index "EndingsLab$Frame").before args s = true) (hNA : NA s) (hK : va_K D clsL (tq cI cZ cT cF) s) (hP : va_P D clsL ws H) (hD : va_D A ws) (hS : va_S A H0 H locs) (hA : ∀ q, H0.size ≤ q → A q) {n : Int32} {N : Nat} (hn : ¬ n < 0) (hN : n.toNatClampNeg = N) (hbytes : N * 4 ≤ 536870912) (hcells : cells + 1 ≤ R.cells) (hslots : slots + N ≤ R.slots) (hd : decode cc pc = .ok (.anewarray index, 3))
    (kk : ∀ (q : Nat) (H1 : Heap), va_P D clsL (ws ++ [(q, .inl (cF, N, .inr (.inr (.inr (.inr (fun _ => none))))))]) H1 → va_D A (ws ++ [(q, .inl (cF, N, .inr (.inr (.inr (.inr (fun _ => none))))))]) → va_S A H0 H1 locs → W p l e R s m args below meth c H1 locs (cells + 1) (slots + N) Q (F0 m (pc + 3) ls (.ref q :: rest))) : W p l e R s m args below meth c H locs cells slots Q (F0 m pc ls (.int n :: rest)) := by
  refine va_newq hx hb hown hcl hNA.2.2 hK hP hD hS hA hn hN hbytes hcells hslots hd (fun q cA H1 hK1 hP1 hD1 hS1 => ?_)
  have h1 := va_nmO (nm := "[LEndingsLab$Frame;") (hK1.2 3 (cF, .object "EndingsLab$Frame") (tq_at rfl _)).2 (by decide +kernel)
  have h2 := va_nmO (nm := "[LEndingsLab$Frame;") (hK1.2 4 (cA, .object "EndingsLab$Frame") rfl).2 (by decide +kernel)
  have h3 : cA = cF := Option.some.inj (h2.symm.trans h1)
  subst h3
  exact kk q H1 hP1 hD1 hS1
end CN
