/-! THE MEANING OF GOOD TEXTS, told once for both: tokens by one number (32 * procedure + place), E i the place of the END of the block that the token i begins -/
/-- ((steps, events, faults made), most, the events by number, held, kinds of faults from 1, their causes (0: none)) -/
abbrev GS : Type := (Nat × Nat × Nat) × Int32 × (Nat → Int32) × (Nat → Int32) × (Nat → Int32) × (Nat → Nat)
def gst (g : GS) : Nat := g.1.1
def gnv (g : GS) : Nat := g.1.2.1
def gnf (g : GS) : Nat := g.1.2.2
def gmo (g : GS) : Int32 := g.2.1
def gev (g : GS) : Nat → Int32 := g.2.2.1
def ghe (g : GS) : Nat → Int32 := g.2.2.2.1
def gfk (g : GS) : Nat → Int32 := g.2.2.2.2.1
def gfc (g : GS) : Nat → Nat := g.2.2.2.2.2
def gSum (h : Nat → Int32) : Int32 := h 0 + h 1 + h 2
def gStep (g : GS) : GS := ((gst g + 1, gnv g, gnf g), gmo g, gev g, ghe g, gfk g, gfc g)
def gNote (g : GS) (a : Int32) : GS := ((gst g, gnv g + 1, gnf g), gmo g, upd (gev g) (gnv g) a, ghe g, gfk g, gfc g)
def gHold (g : GS) (l : Nat) : GS := ((gst g, gnv g, gnf g), (if gmo g < gSum (upd (ghe g) l (ghe g l + 1)) then gSum (upd (ghe g) l (ghe g l + 1)) else gmo g), gev g, upd (ghe g) l (ghe g l + 1), gfk g, gfc g)
def gRel (g : GS) (l : Nat) (n : Int32) : GS := ((gst g, gnv g, gnf g), gmo g, gev g, upd (ghe g) l (ghe g l - n), gfk g, gfc g)
def gMk (g : GS) (k : Int32) (c : Nat) : GS := ((gst g, gnv g, gnf g + 1), gmo g, gev g, ghe g, upd (gfk g) (gnf g + 1) k, va_up (gfc g) (gnf g + 1) c)
/-- all, the account, what this run has entered -/
abbrev SG : Type := GS × Int32 × (Nat → Nat)
/-- how it ends (0 on, 1 break, 2 next, 3 value, 4 fault, 5 late), the value, the fault's number, the state -/
abbrev RR : Type := Nat × Int32 × Nat × SG
def fndA (f : Nat → Bool) : Nat → Nat
  | 0 => 0
  | n + 1 => if fndA f n < n then fndA f n else if f n = true then n else n + 1
/-- the place behind block j of the TRY at i: there stands its next part -/
def PT (E : Nat → Nat) (i : Nat) : Nat → Nat
  | 0 => E i + 1
  | j + 1 => E (PT E i j) + 1
section SEM
variable (op ar : Nat → Int32) (E sz : Nat → Nat)
def tNc (i : Nat) : Nat := (ar i &&& 3).toNatClampNeg
def tLa (i : Nat) : Bool := decide (4 ≤ ar i)
def tEnd (i : Nat) : Nat := PT E i (tNc ar i + if tLa ar i = true then 1 else 0)
def nxI (i : Nat) : Nat := if op i = 3 ∨ op i = 10 ∨ op i = 14 then E i + 1 else if op i = 9 then tEnd ar E i else i + 1
def rOn (s : SG) : RR := (0, 0, 0, s)
def rFa (g : GS) (k : Int32) (c : Nat) (ac : Int32) (en : Nat → Nat) : RR := (4, 0, gnf g + 1, gMk g k c, ac, en)
def sTimes (rec : SG → RR) : Nat → SG → RR
  | 0, s => rOn s
  | k + 1, s => if (rec s).1 = 1 then rOn (rec s).2.2.2 else if (rec s).1 = 0 ∨ (rec s).1 = 2 then sTimes rec k (rec s).2.2.2 else rec s
def sCat (rec : Nat → Nat → SG → RR) (i : Nat) (r : RR) : RR :=
  if r.1 = 4 then
    (if fndA (fun j => isK (gfk r.2.2.2.1 r.2.2.1) (ar (PT E i j))) (tNc ar i) < tNc ar i then
      rec r.2.2.1 (PT E i (fndA (fun j => isK (gfk r.2.2.2.1 r.2.2.1) (ar (PT E i j))) (tNc ar i)) + 1) r.2.2.2 else r)
  else r
def sLst (rec : SG → RR) (r : RR) : RR := if (rec r.2.2.2).1 = 0 then (r.1, r.2.1, r.2.2.1, (rec r.2.2.2).2.2.2) else rec r.2.2.2
def sTry (rec : Nat → Nat → SG → RR) (c i : Nat) (s : SG) : RR :=
  if (sCat ar E rec i (rec c (i + 1) s)).1 = 5 ∨ tLa ar i = false then sCat ar E rec i (rec c (i + 1) s)
  else sLst (rec c (PT E i (tNc ar i) + 1)) (sCat ar E rec i (rec c (i + 1) s))
def gRelE (g : GS) (en : Nat → Nat) : GS := gRel (gRel (gRel g 0 (nI (en 0))) 1 (nI (en 1))) 2 (nI (en 2))
def enOwe (en : Nat → Nat) : Bool := decide (0 < en 0) || decide (0 < en 1) || decide (0 < en 2)
/-- a run of a procedure comes to its end -/
def sFin (r : RR) : Nat × Int32 × Nat × GS :=
  if r.1 = 5 then (5, 0, 0, r.2.2.2.1)
  else if enOwe r.2.2.2.2.2 = true then (4, 0, gnf r.2.2.2.1 + 1, gMk (gRelE r.2.2.2.1 r.2.2.2.2.2) 4 (if r.1 = 4 then r.2.2.1 else 0))
  else if r.1 = 4 then (4, 0, r.2.2.1, gRelE r.2.2.2.1 r.2.2.2.2.2)
  else (3, (if r.1 = 3 then r.2.1 else r.2.2.2.2.1), 0, gRelE r.2.2.2.1 r.2.2.2.2.2)
def sCall (q : Nat × Int32 × Nat × GS) (ac : Int32) (en : Nat → Nat) : RR :=
  if q.1 = 5 then (5, 0, 0, q.2.2.2, ac, en) else if q.1 = 4 then (4, 0, q.2.2.1, q.2.2.2, ac, en) else rOn (q.2.2.2, q.2.1, en)
def sItem (rec : Nat → Nat → Nat → SG → RR) (lev c i : Nat) (g : GS) (ac : Int32) (en : Nat → Nat) : RR :=
  if op i = 0 then rOn (gNote g (ar i), ac, en)
  else if op i = 1 then rOn (g, ac + ar i, en)
  else if op i = 2 then (if ar i = 0 then rFa g 6 0 ac en else rOn (g, ac / ar i, en))
  else if op i = 3 then sTimes (rec lev c (i + 1)) (ar i).toNatClampNeg (g, ac, en)
  else if op i = 4 then (1, 0, 0, g, ac, en)
  else if op i = 5 then (2, 0, 0, g, ac, en)
  else if op i = 6 then (3, ac + ar i, 0, g, ac, en)
  else if op i = 7 then rFa g (ar i) 0 ac en
  else if op i = 8 then rFa g (ar i) c ac en
  else if op i = 9 then sTry ar E (rec lev) c i (g, ac, en)
  else if op i = 10 then
    (if (rec lev c (i + 1) (gHold g (ar i).toNatClampNeg, ac, en)).1 = 5 then rec lev c (i + 1) (gHold g (ar i).toNatClampNeg, ac, en)
     else ((rec lev c (i + 1) (gHold g (ar i).toNatClampNeg, ac, en)).1, (rec lev c (i + 1) (gHold g (ar i).toNatClampNeg, ac, en)).2.1, (rec lev c (i + 1) (gHold g (ar i).toNatClampNeg, ac, en)).2.2.1, gRel (rec lev c (i + 1) (gHold g (ar i).toNatClampNeg, ac, en)).2.2.2.1 (ar i).toNatClampNeg 1, (rec lev c (i + 1) (gHold g (ar i).toNatClampNeg, ac, en)).2.2.2.2))
  else if op i = 11 then rOn (gHold g (ar i).toNatClampNeg, ac, va_up en (ar i).toNatClampNeg (en (ar i).toNatClampNeg + 1))
  else if op i = 12 then (if en (ar i).toNatClampNeg = 0 then rFa g 4 0 ac en else rOn (gRel g (ar i).toNatClampNeg 1, ac, va_up en (ar i).toNatClampNeg (en (ar i).toNatClampNeg - 1)))
  else if op i = 13 then (if lev = 5 then rFa g 5 0 ac en else if sz (ar i).toNatClampNeg = 0 then rOn (g, ac, en) else sCall (sFin (rec (lev + 1) 0 (32 * (ar i).toNatClampNeg) (g, ac, fun _ => 0))) ac en)
  else if op i = 14 then (if ar i < ac then rec lev c (i + 1) (g, ac, en) else rOn (g, ac, en))
  else rOn (g, (if 0 < ghe g (ar i).toNatClampNeg then 1 else 0), en)
def sI (rec : Nat → Nat → Nat → SG → RR) (lev c i : Nat) (s : SG) : RR :=
  if 300 ≤ gst s.1 then (5, 0, 0, s) else sItem op ar E sz rec lev c i (gStep s.1) s.2.1 s.2.2
/-- what is left of a block, from the item at i -/
def sB : Nat → Nat → Nat → Nat → SG → RR
  | 0, _, _, _, s => (5, 0, 0, s)
  | f + 1, lev, c, i, s =>
    if op i = 18 then rOn s
    else if (sI op ar E sz (sB f) lev c i s).1 = 0 then sB f lev c (nxI op ar E i) (sI op ar E sz (sB f) lev c i s).2.2.2
    else sI op ar E sz (sB f) lev c i s
/-- the structure of a good text: from i on, items and then the END at e; d: how many blocks may still be begun inside; t, k: inside of TIMES, of CATCH -/
def blk : Nat → Nat → Bool → Bool → Nat → Nat → Prop
  | 0, _, _, _, _, _ => False
  | f + 1, d, t, k, i, e =>
    (i = e ∧ op e = 18) ∨
    (i < e ∧ ¬ op i = 18 ∧ ¬ op i = 16 ∧ ¬ op i = 17 ∧ (op i = 4 ∨ op i = 5 → t = true) ∧ (op i = 8 → k = true) ∧
      (op i = 3 ∨ op i = 10 ∨ op i = 14 → 0 < d ∧ i < E i ∧ blk f (d - 1) (t || decide (op i = 3)) k (i + 1) (E i)) ∧
      (op i = 9 → 0 < d ∧ lkOK (ar i) ∧ i < E i ∧ blk f (d - 1) t k (i + 1) (E i) ∧
        (∀ j, j < tNc ar i → op (PT E i j) = 16 ∧ PT E i j < E (PT E i j) ∧ blk f (d - 1) t true (PT E i j + 1) (E (PT E i j))) ∧
        (tLa ar i = true → op (PT E i (tNc ar i)) = 17 ∧ PT E i (tNc ar i) < E (PT E i (tNc ar i)) ∧ blk f (d - 1) t k (PT E i (tNc ar i) + 1) (E (PT E i (tNc ar i))))) ∧
      i < nxI op ar E i ∧ nxI op ar E i ≤ e ∧ blk f d t k (nxI op ar E i) e)
end SEM
