/-! THE SMALL MACHINE: what the bytecode does, over whole numbers and one flat memory (shapes, pointers, numbers), as a function that the kernel can run -/
/-- a value: 0 int, 1 long, 2 reference (-1 null), 3 nothing -/
abbrev xV : Type := Nat × Int
/-- (how many cells, how many slots), shape of a cell (kind, size), pointers -/
abbrev xG : Type := (Nat × Nat) × (Nat → Nat × Nat) × (Nat → Nat → Int)
abbrev xD : Type := Nat → Nat → Int
def xupd (t : xD) (a k : Nat) (x : Int) : xD := fun b j => if b = a ∧ j = k then x else t b j
theorem xupd_eq {t : xD} {a k : Nat} {x : Int} : xupd t a k x a k = x := if_pos ⟨rfl, rfl⟩
theorem xupd_ne {t : xD} {a k b j : Nat} {x : Int} (h : ¬ (b = a ∧ j = k)) : xupd t a k x b j = t b j := if_neg h
def xcpy (t : xD) (b sp a dp n : Nat) : xD := fun c j => if c = a ∧ dp ≤ j ∧ j < dp + n then t b (sp + (j - dp)) else t c j
def xadd (x y : Int) : Int := (Int32.ofInt x + Int32.ofInt y).toInt
def xsub (x y : Int) : Int := (Int32.ofInt x - Int32.ofInt y).toInt
def xmul (x y : Int) : Int := (Int32.ofInt x * Int32.ofInt y).toInt
def xand (x y : Int) : Int := (Int32.ofInt x &&& Int32.ofInt y).toInt
def xor_ (x y : Int) : Int := (Int32.ofInt x ||| Int32.ofInt y).toInt
def xxor (x y : Int) : Int := (Int32.ofInt x ^^^ Int32.ofInt y).toInt
def xshl (x y : Int) : Int := (Int32.ofInt x <<< (Int32.ofInt y &&& 31)).toInt
def xshr (x y : Int) : Int := (Int32.ofInt x >>> (Int32.ofInt y &&& 31)).toInt
def xushr (x y : Int) : Int := ((Int32.ofInt x).toUInt32 >>> ((Int32.ofInt y).toUInt32 &&& Int32.toUInt32 31)).toInt32.toInt
def xdiv (x y : Int) : Int := (Int32.ofInt x / Int32.ofInt y).toInt
def xrem (x y : Int) : Int := (Int32.ofInt x - Int32.ofInt x / Int32.ofInt y * Int32.ofInt y).toInt
def xbin (k : Nat) (x y : Int) : Option Int := match k with
  | 0 => some (xadd x y)
  | 1 => some (xsub x y)
  | 2 => some (xmul x y)
  | 3 => some (xand x y)
  | 4 => some (xor_ x y)
  | 5 => some (xxor x y)
  | 6 => some (xshl x y)
  | 7 => some (xshr x y)
  | 8 => some (xushr x y)
  | 9 => if y = 0 then none else some (xdiv x y)
  | 10 => if y = 0 then none else some (xrem x y)
  | _ => none
def xladd (x y : Int) : Int := (Int64.ofInt x + Int64.ofInt y).toInt
def xland (x y : Int) : Int := (Int64.ofInt x &&& Int64.ofInt y).toInt
def xlor (x y : Int) : Int := (Int64.ofInt x ||| Int64.ofInt y).toInt
def xldiv (x y : Int) : Int := (Int64.ofInt x / Int64.ofInt y).toInt
def xlrem (x y : Int) : Int := (Int64.ofInt x - Int64.ofInt x / Int64.ofInt y * Int64.ofInt y).toInt
def xlshl (x y : Int) : Int := (Int64.ofInt x <<< ((Int32.ofInt y).toInt64 &&& 63)).toInt
def xlushr (x y : Int) : Int := ((Int64.ofInt x).toUInt64 >>> ((Int32.ofInt y).toInt64.toUInt64 &&& Int64.toUInt64 63)).toInt64.toInt
def xlcmp (x y : Int) : Int := if y < x then 1 else if x = y then 0 else -1
def xlbin (k : Nat) (x y : Int) : Option xV := match k with
  | 0 => some (1, xladd x y)
  | 1 => some (1, xland x y)
  | 2 => some (1, xlor x y)
  | 4 => if y = 0 then none else some (1, xldiv x y)
  | 5 => if y = 0 then none else some (1, xlrem x y)
  | 6 => some (1, xlshl x y)
  | 7 => some (1, xlushr x y)
  | 8 => some (0, xlcmp x y)
  | _ => none
def xl2i (x : Int) : Int := (Int64.ofInt x).toInt32.toInt
def xi2b (x : Int) : Int := (Int32.ofInt x).toInt8.toInt32.toInt
def xi2s (x : Int) : Int := (Int32.ofInt x).toInt16.toInt32.toInt
def xlneg (x : Int) : Int := (-(Int64.ofInt x)).toInt
def xun (k : Nat) (v : xV) : Option xV := match k, v with
  | 0, (0, x) => some (1, x)
  | 1, (1, x) => some (0, xl2i x)
  | 2, (0, x) => some (0, xi2b x)
  | 3, (0, x) => some (0, xi2s x)
  | 4, (1, x) => some (1, xlneg x)
  | _, _ => none
def xcond (k : Nat) (x y : Int) : Prop := match k with
  | 0 => x = y
  | 1 => ¬ x = y
  | 2 => x < y
  | 3 => y ≤ x
  | 4 => y < x
  | _ => x ≤ y
def xcondb (k : Nat) (x y : Int) : Bool := match k with
  | 0 => decide (x = y)
  | 1 => decide (¬ x = y)
  | 2 => decide (x < y)
  | 3 => decide (y ≤ x)
  | 4 => decide (y < x)
  | _ => decide (x ≤ y)
def xset : List xV → Nat → xV → List xV
  | [], _, _ => []
  | _ :: r, 0, v => v :: r
  | w :: r, i + 1, v => (if i = 0 ∧ w.1 = 1 then ((3, 0) : xV) else w) :: xset r i v
def xcat (v : xV) : Nat := if v.1 = 1 then 2 else 1
def xcats (l : List xV) : Nat := (l.map xcat).sum
def xspread : List xV → List xV
  | [] => []
  | v :: r => if v.1 = 1 then v :: (3, 0) :: xspread r else v :: xspread r
/-- a method's locals at its start -/
def xenter (as : List xV) (n : Nat) : List xV := xspread as ++ List.replicate (n - (xspread as).length) (3, 0)
abbrev xobj (g : xG) (a ci k : Nat) : Prop := (g.2.1 a).1 = ci ∧ k < (g.2.1 a).2
/-- a new cell -/
def xnew (g : xG) (kd n : Nat) : xG := ((g.1.1 + 1, g.1.2 + n), (fun a => if a = g.1.1 + 2 then (kd, n) else g.2.1 a), g.2.2)
def xnew2 (g : xG) (n k : Nat) : xG := ((g.1.1 + 1 + n, g.1.2 + n + n * k), (fun a => if a = g.1.1 + 2 then (26, n) else if g.1.1 + 2 < a ∧ a ≤ g.1.1 + 2 + n then (20, k) else g.2.1 a), (fun a j => if a = g.1.1 + 2 ∧ j < n then ((g.1.1 + 3 + j : Nat) : Int) else g.2.2 a j))
def xptr (g : xG) (a k : Nat) (x : Int) : xG := (g.1, g.2.1, xupd g.2.2 a k x)
/-- a field: 0 int, 1 long, 2 reference, 4 boolean; 10 more: final -/
def xfk (ci k : Nat) : Nat := match ci with
  | 0 => if k < 3 then 12 else 0
  | 1 => if k < 3 then 12 else 0
  | 2 => if k = 0 then 12 else if k = 1 then 1 else 0
  | 3 => if k = 0 then 12 else 0
  | 4 => if k < 2 then 12 else if k = 2 then 10 else 0
  | 5 => if k < 6 then 12 else if k = 8 then 4 else if k = 10 then 4 else if k = 11 then 1 else 0
  | 6 => if k = 0 then 12 else 0
  | 7 => if k = 0 then 12 else 0
  | 8 => if k < 6 then 12 else 4
  | _ => xfk9 k
def xft (ci k : Nat) : Nat := let z := xfk ci k % 10; if z = 4 then 0 else z
def xfsz (ci : Nat) : Nat := match ci with
  | 0 => 6
  | 1 => 4
  | 2 => 8
  | 3 => 9
  | 4 => 4
  | 5 => 12
  | 6 => 3
  | 7 => 2
  | 8 => 7
  | 9 => 42
  | _ => 0
def xslot (g : xG) (t : xD) (a ci k : Nat) : xV := if xft ci k = 2 then (2, g.2.2 a k) else (xft ci k, t a k)
abbrev xSt : Type := Nat × List xV × List xV × xG × xD
def xcn (ci : Nat) : String := match vwCl[ci]? with
  | some q => q.1
  | none => ""
def xput (mi ci k a : Nat) (v : xV) (g : xG) (t : xD) : Option (xG × xD) :=
  if xobj g a ci k ∧ v.1 = xft ci k ∧ (xfk ci k < 10 ∨ (xin mi = true ∧ xowny mi = xcn ci)) ∧ (xfk ci k % 10 = 4 → v.2 = 0 ∨ v.2 = 1) ∧ 2 ≤ a then
    (if xft ci k = 2 then (if 0 ≤ v.2 then some (xptr g a k v.2, t) else none) else some (g, xupd t a k v.2)) else none
def xald (kd a : Nat) (i : Int) (g : xG) (t : xD) : Option xV :=
  if 0 ≤ i ∧ i.toNat < (g.2.1 a).2 then
    (if kd = 23 then (if 23 ≤ (g.2.1 a).1 ∧ (g.2.1 a).1 ≤ 26 then some (2, g.2.2 a i.toNat) else none)
     else if (g.2.1 a).1 = kd then some (if kd = 21 then 1 else 0, t a i.toNat) else none) else none
def xast (kd a : Nat) (i : Int) (v : xV) (g : xG) (t : xD) : Option (xG × xD) :=
  if 0 ≤ i ∧ i.toNat < (g.2.1 a).2 ∧ 2 ≤ a then
    (if kd = 23 then (if v.1 = 2 ∧ 0 ≤ v.2 ∧ 23 ≤ (g.2.1 a).1 ∧ (g.2.1 a).1 ≤ 25 ∧ xobj g v.2.toNat (xrowc (g.2.1 a).1) 0 then some (xptr g a i.toNat v.2, t) else none)
     else if (g.2.1 a).1 = kd ∧ v.1 = (if kd = 21 then 1 else 0) then some (g, xupd t a i.toNat (if kd = 22 then xi2b v.2 else v.2)) else none) else none
def xs1 (i tg pc : Nat) (ls st : List xV) (g : xG) (t : xD) : Option xSt := match ls[i]? with
  | some v => if v.1 = tg then some (pc, ls, v :: st, g, t) else none
  | none => none
def xs2 (i tg pc : Nat) (ls st : List xV) (g : xG) (t : xD) : Option xSt := match st with
  | v :: r => if v.1 = tg ∧ i + xcat v ≤ ls.length then some (pc, (if v.1 = 1 then xset (xset ls (i + 1) (3, 0)) i v else xset ls i v), r, g, t) else none
  | _ => none
def xs3 (i : Nat) (n : Int) (pc : Nat) (ls st : List xV) (g : xG) (t : xD) : Option xSt := match ls[i]? with
  | some v => if v.1 = 0 then some (pc, xset ls i (0, xadd v.2 n), st, g, t) else none
  | none => none
def xs4 (k pc : Nat) (ls st : List xV) (g : xG) (t : xD) : Option xSt := match st with
  | (0, y) :: (0, x) :: r => (match xbin k x y with
    | some z => some (pc, ls, (0, z) :: r, g, t)
    | none => none)
  | _ => none
def xs5 (k pc : Nat) (ls st : List xV) (g : xG) (t : xD) : Option xSt := match st with
  | v :: r => (match xun k v with
    | some z => some (pc, ls, z :: r, g, t)
    | none => none)
  | _ => none
def xs6 (k pc : Nat) (ls st : List xV) (g : xG) (t : xD) : Option xSt := match st with
  | (b, y) :: (1, x) :: r => if b = (if k = 6 ∨ k = 7 then 0 else 1) then (match xlbin k x y with
    | some z => some (pc, ls, z :: r, g, t)
    | none => none) else none
  | _ => none
def xs7 (k tgt pc : Nat) (ls st : List xV) (g : xG) (t : xD) : Option xSt := match st with
  | (0, x) :: r => some (if xcondb k x 0 = true then tgt else pc, ls, r, g, t)
  | _ => none
def xs8 (k tgt pc : Nat) (ls st : List xV) (g : xG) (t : xD) : Option xSt := match st with
  | (0, y) :: (0, x) :: r => some (if xcondb k x y = true then tgt else pc, ls, r, g, t)
  | _ => none
def xs10 (dflt : Nat) (lo : Int) (ts : List Nat) (ls st : List xV) (g : xG) (t : xD) : Option xSt := match st with
  | (0, x) :: r => if x < lo ∨ lo + (ts.length : Int) ≤ x then some (dflt, ls, r, g, t) else (match ts[(x - lo).toNat]? with
    | some q => some (q, ls, r, g, t)
    | none => none)
  | _ => none
def xs11 (pc : Nat) (ls st : List xV) (g : xG) (t : xD) : Option xSt := match st with
  | v :: r => if v.1 = 1 then none else some (pc, ls, v :: v :: r, g, t)
  | _ => none
def xs12 (pc : Nat) (ls st : List xV) (g : xG) (t : xD) : Option xSt := match st with
  | v :: r => if v.1 = 1 then none else some (pc, ls, r, g, t)
  | _ => none
def xs13 (pc : Nat) (ls st : List xV) (g : xG) (t : xD) : Option xSt := match st with
  | v :: w :: r => if v.1 = 1 ∨ w.1 = 1 then none else some (pc, ls, v :: w :: v :: r, g, t)
  | _ => none
def xs14 (pc : Nat) (ls st : List xV) (g : xG) (t : xD) : Option xSt := match st with
  | v :: w :: r => if v.1 = 1 ∨ w.1 = 1 then none else some (pc, ls, v :: w :: v :: w :: r, g, t)
  | _ => none
def xs15 (ci k pc : Nat) (ls st : List xV) (g : xG) (t : xD) : Option xSt := match st with
  | (2, .ofNat a) :: r => if xobj g a ci k then some (pc, ls, xslot g t a ci k :: r, g, t) else none
  | _ => none
def xs16 (mi ci k pc : Nat) (ls st : List xV) (g : xG) (t : xD) : Option xSt := match st with
  | v :: (2, .ofNat a) :: r => (match xput mi ci k a v g t with
    | some q => some (pc, ls, r, q.1, q.2)
    | none => none)
  | _ => none
def xs17 (kd pc : Nat) (ls st : List xV) (g : xG) (t : xD) : Option xSt := match st with
  | (0, i) :: (2, .ofNat a) :: r => (match xald kd a i g t with
    | some v => some (pc, ls, v :: r, g, t)
    | none => none)
  | _ => none
def xs18 (kd pc : Nat) (ls st : List xV) (g : xG) (t : xD) : Option xSt := match st with
  | v :: (0, i) :: (2, .ofNat a) :: r => (match xast kd a i v g t with
    | some q => some (pc, ls, r, q.1, q.2)
    | none => none)
  | _ => none
def xs19 (pc : Nat) (ls st : List xV) (g : xG) (t : xD) : Option xSt := match st with
  | (2, .ofNat 0) :: r => some (pc, ls, (0, (((g.2.1 0).2 : Nat) : Int)) :: r, g, t)
  | _ => none
def xs21 (kd pc : Nat) (ls st : List xV) (g : xG) (t : xD) : Option xSt := match st with
  | (0, .ofNat n) :: r => if n ≤ 1000 then some (pc, ls, (2, ((g.1.1 + 2 : Nat) : Int)) :: r, xnew g kd n, t) else none
  | _ => none
def xs23 (pc : Nat) (ls st : List xV) (g : xG) (t : xD) : Option xSt := match st with
  | (0, .ofNat k) :: (0, .ofNat n) :: r => if n ≤ 1000 ∧ k ≤ 1000 ∧ 0 < k then some (pc, ls, (2, ((g.1.1 + 2 : Nat) : Int)) :: r, xnew2 g n k, t) else none
  | _ => none
def xs26 (d pc : Nat) (ls st : List xV) (g : xG) (t : xD) : Option xSt := match st with
  | (0, n) :: (0, dp) :: (2, .ofNat a) :: (0, sp) :: (2, .ofNat b) :: r => if 0 < d ∧ xcats r ≤ 8 ∧ 2 ≤ a ∧ 2 ≤ b ∧ 0 ≤ n ∧ 0 ≤ dp ∧ 0 ≤ sp ∧ ((g.2.1 a).1 = 20 ∨ (g.2.1 a).1 = 21) ∧ (g.2.1 b).1 = (g.2.1 a).1 ∧ sp.toNat + n.toNat ≤ (g.2.1 b).2 ∧ dp.toNat + n.toNat ≤ (g.2.1 a).2 ∧ 0 < (g.2.1 a).2 ∧ 0 < (g.2.1 b).2 then
      some (pc, ls, r, g, xcpy t b sp.toNat a dp.toNat n.toNat) else none
  | _ => none
def xs27 (d pc : Nat) (ls st : List xV) (g : xG) (t : xD) : Option xSt := match st with
  | (2, .ofNat _) :: r => if 0 < d ∧ xcats r ≤ 8 then some (pc, ls, r, g, t) else none
  | _ => none
def xstep (d mi len : Nat) (o : xOp) (pc : Nat) (ls st : List xV) (g : xG) (t : xD) : Option xSt := match o.1 with
  | 0 => some (pc + len, ls, (o.2.1, o.2.2.2.1) :: st, g, t)
  | 1 => xs1 o.2.1 o.2.2.1 (pc + len) ls st g t
  | 2 => xs2 o.2.1 o.2.2.1 (pc + len) ls st g t
  | 3 => xs3 o.2.1 o.2.2.2.1 (pc + len) ls st g t
  | 4 => xs4 o.2.1 (pc + len) ls st g t
  | 5 => xs5 o.2.1 (pc + len) ls st g t
  | 6 => xs6 o.2.1 (pc + len) ls st g t
  | 7 => xs7 o.2.1 o.2.2.1 (pc + len) ls st g t
  | 8 => xs8 o.2.1 o.2.2.1 (pc + len) ls st g t
  | 9 => some (o.2.1, ls, st, g, t)
  | 10 => xs10 o.2.1 o.2.2.2.1 o.2.2.2.2 ls st g t
  | 11 => xs11 (pc + len) ls st g t
  | 12 => xs12 (pc + len) ls st g t
  | 13 => xs13 (pc + len) ls st g t
  | 14 => xs14 (pc + len) ls st g t
  | 15 => xs15 o.2.1 o.2.2.1 (pc + len) ls st g t
  | 16 => xs16 mi o.2.1 o.2.2.1 (pc + len) ls st g t
  | 17 => xs17 o.2.1 (pc + len) ls st g t
  | 18 => xs18 o.2.1 (pc + len) ls st g t
  | 19 => xs19 (pc + len) ls st g t
  | 20 => some (pc + len, ls, (2, ((g.1.1 + 2 : Nat) : Int)) :: st, xnew g o.2.1 (xfsz o.2.1), t)
  | 21 => xs21 o.2.1 (pc + len) ls st g t
  | 22 => xs21 o.2.1 (pc + len) ls st g t
  | 23 => xs23 (pc + len) ls st g t
  | 26 => xs26 d (pc + len) ls st g t
  | 27 => xs27 d (pc + len) ls st g t
  | 28 => some (pc + len, ls, (2, ((1 : Nat) : Int)) :: st, g, t)
  | _ => none
-- how many parameters a method has; what it returns: 0 nothing, 1 int, 2 long, 3 boolean
def xnp (mi : Nat) : Nat := bif Nat.blt mi 101 then (bif Nat.blt mi 50 then (bif Nat.blt mi 25 then (bif Nat.blt mi 12 then (bif Nat.blt mi 6 then (bif Nat.blt mi 3 then (bif Nat.blt mi 1 then (0) else (bif Nat.blt mi 2 then (1) else (3))) else (bif Nat.blt mi 4 then (1) else (bif Nat.blt mi 5 then (1) else (2)))) else (bif Nat.blt mi 9 then (bif Nat.blt mi 7 then (1) else (bif Nat.blt mi 8 then (1) else (0))) else (bif Nat.blt mi 10 then (3) else (bif Nat.blt mi 11 then (1) else (1))))) else (bif Nat.blt mi 18 then (bif Nat.blt mi 15 then (bif Nat.blt mi 13 then (2) else (bif Nat.blt mi 14 then (1) else (0))) else (bif Nat.blt mi 16 then (1) else (bif Nat.blt mi 17 then (0) else (1)))) else (bif Nat.blt mi 21 then (bif Nat.blt mi 19 then (2) else (bif Nat.blt mi 20 then (0) else (1))) else (bif Nat.blt mi 23 then (bif Nat.blt mi 22 then (0) else (4)) else (bif Nat.blt mi 24 then (5) else (1)))))) else (bif Nat.blt mi 37 then (bif Nat.blt mi 31 then (bif Nat.blt mi 28 then (bif Nat.blt mi 26 then (3) else (bif Nat.blt mi 27 then (1) else (2))) else (bif Nat.blt mi 29 then (1) else (bif Nat.blt mi 30 then (0) else (1)))) else (bif Nat.blt mi 34 then (bif Nat.blt mi 32 then (1) else (bif Nat.blt mi 33 then (0) else (1))) else (bif Nat.blt mi 35 then (1) else (bif Nat.blt mi 36 then (1) else (0))))) else (bif Nat.blt mi 43 then (bif Nat.blt mi 40 then (bif Nat.blt mi 38 then (0) else (bif Nat.blt mi 39 then (2) else (2))) else (bif Nat.blt mi 41 then (1) else (bif Nat.blt mi 42 then (1) else (1)))) else (bif Nat.blt mi 46 then (bif Nat.blt mi 44 then (0) else (bif Nat.blt mi 45 then (0) else (0))) else (bif Nat.blt mi 48 then (bif Nat.blt mi 47 then (1) else (2)) else (bif Nat.blt mi 49 then (1) else (4))))))) else (bif Nat.blt mi 75 then (bif Nat.blt mi 62 then (bif Nat.blt mi 56 then (bif Nat.blt mi 53 then (bif Nat.blt mi 51 then (3) else (bif Nat.blt mi 52 then (2) else (0))) else (bif Nat.blt mi 54 then (0) else (bif Nat.blt mi 55 then (0) else (0)))) else (bif Nat.blt mi 59 then (bif Nat.blt mi 57 then (1) else (bif Nat.blt mi 58 then (0) else (0))) else (bif Nat.blt mi 60 then (0) else (bif Nat.blt mi 61 then (0) else (2))))) else (bif Nat.blt mi 68 then (bif Nat.blt mi 65 then (bif Nat.blt mi 63 then (2) else (bif Nat.blt mi 64 then (1) else (0))) else (bif Nat.blt mi 66 then (0) else (bif Nat.blt mi 67 then (0) else (0)))) else (bif Nat.blt mi 71 then (bif Nat.blt mi 69 then (0) else (bif Nat.blt mi 70 then (1) else (0))) else (bif Nat.blt mi 73 then (bif Nat.blt mi 72 then (2) else (2)) else (bif Nat.blt mi 74 then (2) else (3)))))) else (bif Nat.blt mi 88 then (bif Nat.blt mi 81 then (bif Nat.blt mi 78 then (bif Nat.blt mi 76 then (2) else (bif Nat.blt mi 77 then (1) else (1))) else (bif Nat.blt mi 79 then (4) else (bif Nat.blt mi 80 then (1) else (1)))) else (bif Nat.blt mi 84 then (bif Nat.blt mi 82 then (1) else (bif Nat.blt mi 83 then (0) else (2))) else (bif Nat.blt mi 86 then (bif Nat.blt mi 85 then (0) else (2)) else (bif Nat.blt mi 87 then (1) else (3))))) else (bif Nat.blt mi 94 then (bif Nat.blt mi 91 then (bif Nat.blt mi 89 then (1) else (bif Nat.blt mi 90 then (3) else (2))) else (bif Nat.blt mi 92 then (2) else (bif Nat.blt mi 93 then (4) else (1)))) else (bif Nat.blt mi 97 then (bif Nat.blt mi 95 then (2) else (bif Nat.blt mi 96 then (1) else (2))) else (bif Nat.blt mi 99 then (bif Nat.blt mi 98 then (0) else (2)) else (bif Nat.blt mi 100 then (0) else (0)))))))) else (bif Nat.blt mi 152 then (bif Nat.blt mi 126 then (bif Nat.blt mi 113 then (bif Nat.blt mi 107 then (bif Nat.blt mi 104 then (bif Nat.blt mi 102 then (2) else (bif Nat.blt mi 103 then (1) else (3))) else (bif Nat.blt mi 105 then (3) else (bif Nat.blt mi 106 then (2) else (5)))) else (bif Nat.blt mi 110 then (bif Nat.blt mi 108 then (3) else (bif Nat.blt mi 109 then (0) else (1))) else (bif Nat.blt mi 111 then (1) else (bif Nat.blt mi 112 then (2) else (3))))) else (bif Nat.blt mi 119 then (bif Nat.blt mi 116 then (bif Nat.blt mi 114 then (2) else (bif Nat.blt mi 115 then (0) else (3))) else (bif Nat.blt mi 117 then (1) else (bif Nat.blt mi 118 then (1) else (1)))) else (bif Nat.blt mi 122 then (bif Nat.blt mi 120 then (1) else (bif Nat.blt mi 121 then (0) else (1))) else (bif Nat.blt mi 124 then (bif Nat.blt mi 123 then (1) else (0)) else (bif Nat.blt mi 125 then (1) else (0)))))) else (bif Nat.blt mi 139 then (bif Nat.blt mi 132 then (bif Nat.blt mi 129 then (bif Nat.blt mi 127 then (2) else (bif Nat.blt mi 128 then (2) else (2))) else (bif Nat.blt mi 130 then (2) else (bif Nat.blt mi 131 then (1) else (2)))) else (bif Nat.blt mi 135 then (bif Nat.blt mi 133 then (2) else (bif Nat.blt mi 134 then (1) else (2))) else (bif Nat.blt mi 137 then (bif Nat.blt mi 136 then (2) else (2)) else (bif Nat.blt mi 138 then (2) else (3))))) else (bif Nat.blt mi 145 then (bif Nat.blt mi 142 then (bif Nat.blt mi 140 then (2) else (bif Nat.blt mi 141 then (1) else (1))) else (bif Nat.blt mi 143 then (1) else (bif Nat.blt mi 144 then (4) else (3)))) else (bif Nat.blt mi 148 then (bif Nat.blt mi 146 then (2) else (bif Nat.blt mi 147 then (2) else (2))) else (bif Nat.blt mi 150 then (bif Nat.blt mi 149 then (1) else (1)) else (bif Nat.blt mi 151 then (1) else (1))))))) else (bif Nat.blt mi 177 then (bif Nat.blt mi 164 then (bif Nat.blt mi 158 then (bif Nat.blt mi 155 then (bif Nat.blt mi 153 then (3) else (bif Nat.blt mi 154 then (2) else (0))) else (bif Nat.blt mi 156 then (0) else (bif Nat.blt mi 157 then (0) else (0)))) else (bif Nat.blt mi 161 then (bif Nat.blt mi 159 then (1) else (bif Nat.blt mi 160 then (2) else (2))) else (bif Nat.blt mi 162 then (0) else (bif Nat.blt mi 163 then (0) else (0))))) else (bif Nat.blt mi 170 then (bif Nat.blt mi 167 then (bif Nat.blt mi 165 then (2) else (bif Nat.blt mi 166 then (0) else (0))) else (bif Nat.blt mi 168 then (1) else (bif Nat.blt mi 169 then (3) else (1)))) else (bif Nat.blt mi 173 then (bif Nat.blt mi 171 then (2) else (bif Nat.blt mi 172 then (1) else (3))) else (bif Nat.blt mi 175 then (bif Nat.blt mi 174 then (3) else (0)) else (bif Nat.blt mi 176 then (1) else (3)))))) else (bif Nat.blt mi 190 then (bif Nat.blt mi 183 then (bif Nat.blt mi 180 then (bif Nat.blt mi 178 then (2) else (bif Nat.blt mi 179 then (2) else (3))) else (bif Nat.blt mi 181 then (4) else (bif Nat.blt mi 182 then (1) else (2)))) else (bif Nat.blt mi 186 then (bif Nat.blt mi 184 then (1) else (bif Nat.blt mi 185 then (2) else (0))) else (bif Nat.blt mi 188 then (bif Nat.blt mi 187 then (2) else (1)) else (bif Nat.blt mi 189 then (1) else (0))))) else (bif Nat.blt mi 196 then (bif Nat.blt mi 193 then (bif Nat.blt mi 191 then (0) else (bif Nat.blt mi 192 then (2) else (1))) else (bif Nat.blt mi 194 then (1) else (bif Nat.blt mi 195 then (3) else (2)))) else (bif Nat.blt mi 199 then (bif Nat.blt mi 197 then (3) else (bif Nat.blt mi 198 then (2) else (5))) else (bif Nat.blt mi 201 then (bif Nat.blt mi 200 then (1) else (1)) else (bif Nat.blt mi 202 then (2) else (1))))))))
def xrk (mi : Nat) : Nat := bif Nat.blt mi 101 then (bif Nat.blt mi 50 then (bif Nat.blt mi 25 then (bif Nat.blt mi 12 then (bif Nat.blt mi 6 then (bif Nat.blt mi 3 then (bif Nat.blt mi 1 then (0) else (bif Nat.blt mi 2 then (0) else (1))) else (bif Nat.blt mi 4 then (1) else (bif Nat.blt mi 5 then (3) else (3)))) else (bif Nat.blt mi 9 then (bif Nat.blt mi 7 then (1) else (bif Nat.blt mi 8 then (0) else (0))) else (bif Nat.blt mi 10 then (0) else (bif Nat.blt mi 11 then (1) else (0))))) else (bif Nat.blt mi 18 then (bif Nat.blt mi 15 then (bif Nat.blt mi 13 then (1) else (bif Nat.blt mi 14 then (0) else (0))) else (bif Nat.blt mi 16 then (0) else (bif Nat.blt mi 17 then (1) else (3)))) else (bif Nat.blt mi 21 then (bif Nat.blt mi 19 then (0) else (bif Nat.blt mi 20 then (0) else (0))) else (bif Nat.blt mi 23 then (bif Nat.blt mi 22 then (0) else (0)) else (bif Nat.blt mi 24 then (0) else (0)))))) else (bif Nat.blt mi 37 then (bif Nat.blt mi 31 then (bif Nat.blt mi 28 then (bif Nat.blt mi 26 then (0) else (bif Nat.blt mi 27 then (0) else (1))) else (bif Nat.blt mi 29 then (0) else (bif Nat.blt mi 30 then (0) else (0)))) else (bif Nat.blt mi 34 then (bif Nat.blt mi 32 then (3) else (bif Nat.blt mi 33 then (1) else (1))) else (bif Nat.blt mi 35 then (0) else (bif Nat.blt mi 36 then (1) else (1))))) else (bif Nat.blt mi 43 then (bif Nat.blt mi 40 then (bif Nat.blt mi 38 then (1) else (bif Nat.blt mi 39 then (1) else (1))) else (bif Nat.blt mi 41 then (1) else (bif Nat.blt mi 42 then (3) else (3)))) else (bif Nat.blt mi 46 then (bif Nat.blt mi 44 then (1) else (bif Nat.blt mi 45 then (1) else (1))) else (bif Nat.blt mi 48 then (bif Nat.blt mi 47 then (1) else (1)) else (bif Nat.blt mi 49 then (1) else (1))))))) else (bif Nat.blt mi 75 then (bif Nat.blt mi 62 then (bif Nat.blt mi 56 then (bif Nat.blt mi 53 then (bif Nat.blt mi 51 then (1) else (bif Nat.blt mi 52 then (1) else (1))) else (bif Nat.blt mi 54 then (3) else (bif Nat.blt mi 55 then (0) else (3)))) else (bif Nat.blt mi 59 then (bif Nat.blt mi 57 then (1) else (bif Nat.blt mi 58 then (1) else (1))) else (bif Nat.blt mi 60 then (0) else (bif Nat.blt mi 61 then (0) else (0))))) else (bif Nat.blt mi 68 then (bif Nat.blt mi 65 then (bif Nat.blt mi 63 then (3) else (bif Nat.blt mi 64 then (2) else (0))) else (bif Nat.blt mi 66 then (1) else (bif Nat.blt mi 67 then (2) else (1)))) else (bif Nat.blt mi 71 then (bif Nat.blt mi 69 then (0) else (bif Nat.blt mi 70 then (1) else (1))) else (bif Nat.blt mi 73 then (bif Nat.blt mi 72 then (1) else (1)) else (bif Nat.blt mi 74 then (1) else (1)))))) else (bif Nat.blt mi 88 then (bif Nat.blt mi 81 then (bif Nat.blt mi 78 then (bif Nat.blt mi 76 then (1) else (bif Nat.blt mi 77 then (1) else (1))) else (bif Nat.blt mi 79 then (1) else (bif Nat.blt mi 80 then (1) else (1)))) else (bif Nat.blt mi 84 then (bif Nat.blt mi 82 then (1) else (bif Nat.blt mi 83 then (1) else (1))) else (bif Nat.blt mi 86 then (bif Nat.blt mi 85 then (1) else (1)) else (bif Nat.blt mi 87 then (1) else (1))))) else (bif Nat.blt mi 94 then (bif Nat.blt mi 91 then (bif Nat.blt mi 89 then (1) else (bif Nat.blt mi 90 then (1) else (1))) else (bif Nat.blt mi 92 then (1) else (bif Nat.blt mi 93 then (2) else (2)))) else (bif Nat.blt mi 97 then (bif Nat.blt mi 95 then (1) else (bif Nat.blt mi 96 then (1) else (1))) else (bif Nat.blt mi 99 then (bif Nat.blt mi 98 then (1) else (1)) else (bif Nat.blt mi 100 then (1) else (1)))))))) else (bif Nat.blt mi 152 then (bif Nat.blt mi 126 then (bif Nat.blt mi 113 then (bif Nat.blt mi 107 then (bif Nat.blt mi 104 then (bif Nat.blt mi 102 then (1) else (bif Nat.blt mi 103 then (1) else (1))) else (bif Nat.blt mi 105 then (1) else (bif Nat.blt mi 106 then (2) else (1)))) else (bif Nat.blt mi 110 then (bif Nat.blt mi 108 then (1) else (bif Nat.blt mi 109 then (1) else (3))) else (bif Nat.blt mi 111 then (3) else (bif Nat.blt mi 112 then (3) else (2))))) else (bif Nat.blt mi 119 then (bif Nat.blt mi 116 then (bif Nat.blt mi 114 then (1) else (bif Nat.blt mi 115 then (0) else (3))) else (bif Nat.blt mi 117 then (3) else (bif Nat.blt mi 118 then (3) else (3)))) else (bif Nat.blt mi 122 then (bif Nat.blt mi 120 then (1) else (bif Nat.blt mi 121 then (1) else (3))) else (bif Nat.blt mi 124 then (bif Nat.blt mi 123 then (1) else (1)) else (bif Nat.blt mi 125 then (1) else (1)))))) else (bif Nat.blt mi 139 then (bif Nat.blt mi 132 then (bif Nat.blt mi 129 then (bif Nat.blt mi 127 then (1) else (bif Nat.blt mi 128 then (1) else (1))) else (bif Nat.blt mi 130 then (1) else (bif Nat.blt mi 131 then (1) else (3)))) else (bif Nat.blt mi 135 then (bif Nat.blt mi 133 then (3) else (bif Nat.blt mi 134 then (1) else (1))) else (bif Nat.blt mi 137 then (bif Nat.blt mi 136 then (1) else (1)) else (bif Nat.blt mi 138 then (1) else (1))))) else (bif Nat.blt mi 145 then (bif Nat.blt mi 142 then (bif Nat.blt mi 140 then (1) else (bif Nat.blt mi 141 then (0) else (1))) else (bif Nat.blt mi 143 then (1) else (bif Nat.blt mi 144 then (1) else (3)))) else (bif Nat.blt mi 148 then (bif Nat.blt mi 146 then (3) else (bif Nat.blt mi 147 then (3) else (1))) else (bif Nat.blt mi 150 then (bif Nat.blt mi 149 then (1) else (1)) else (bif Nat.blt mi 151 then (1) else (1))))))) else (bif Nat.blt mi 177 then (bif Nat.blt mi 164 then (bif Nat.blt mi 158 then (bif Nat.blt mi 155 then (bif Nat.blt mi 153 then (0) else (bif Nat.blt mi 154 then (0) else (3))) else (bif Nat.blt mi 156 then (1) else (bif Nat.blt mi 157 then (3) else (1)))) else (bif Nat.blt mi 161 then (bif Nat.blt mi 159 then (3) else (bif Nat.blt mi 160 then (1) else (1))) else (bif Nat.blt mi 162 then (1) else (bif Nat.blt mi 163 then (1) else (1))))) else (bif Nat.blt mi 170 then (bif Nat.blt mi 167 then (bif Nat.blt mi 165 then (1) else (bif Nat.blt mi 166 then (1) else (1))) else (bif Nat.blt mi 168 then (1) else (bif Nat.blt mi 169 then (1) else (3)))) else (bif Nat.blt mi 173 then (bif Nat.blt mi 171 then (3) else (bif Nat.blt mi 172 then (3) else (0))) else (bif Nat.blt mi 175 then (bif Nat.blt mi 174 then (0) else (1)) else (bif Nat.blt mi 176 then (1) else (1)))))) else (bif Nat.blt mi 190 then (bif Nat.blt mi 183 then (bif Nat.blt mi 180 then (bif Nat.blt mi 178 then (1) else (bif Nat.blt mi 179 then (1) else (2))) else (bif Nat.blt mi 181 then (2) else (bif Nat.blt mi 182 then (2) else (1)))) else (bif Nat.blt mi 186 then (bif Nat.blt mi 184 then (1) else (bif Nat.blt mi 185 then (1) else (1))) else (bif Nat.blt mi 188 then (bif Nat.blt mi 187 then (1) else (0)) else (bif Nat.blt mi 189 then (0) else (1))))) else (bif Nat.blt mi 196 then (bif Nat.blt mi 193 then (bif Nat.blt mi 191 then (1) else (bif Nat.blt mi 192 then (1) else (1))) else (bif Nat.blt mi 194 then (3) else (bif Nat.blt mi 195 then (1) else (2)))) else (bif Nat.blt mi 199 then (bif Nat.blt mi 197 then (1) else (bif Nat.blt mi 198 then (2) else (1))) else (bif Nat.blt mi 201 then (bif Nat.blt mi 200 then (1) else (2)) else (bif Nat.blt mi 202 then (1) else (3))))))))
/-- what a return gives: none: it isn't one that can -/
def xret (mi a : Nat) (st : List xV) : Option (Option xV) := match a, st with
  | 0, [] => if xrk mi = 0 then some none else none
  | 1, [(0, x)] => if xrk mi = 1 ∨ (xrk mi = 3 ∧ (x = 0 ∨ x = 1)) then some (some (0, x)) else none
  | 2, [(1, x)] => if xrk mi = 2 then some (some (1, x)) else none
  | _, _ => none
/-- a call's values and the rest of the stack -/
def xpop (n : Nat) (st : List xV) : Option (List xV × List xV) := if n ≤ st.length then some ((st.take n).reverse, st.drop n) else none
def xrecvb (kd ci : Nat) (as : List xV) (g : xG) : Bool := match kd, as with
  | 0, (2, .ofNat a) :: _ => decide ((g.2.1 a).1 = ci) && decide (0 < (g.2.1 a).2)
  | 0, _ => false
  | 1, _ => true
  | _, (2, .ofNat _) :: _ => true
  | _, _ => false
abbrev xRes : Type := Option (Option xV × xG × xD)
abbrev xF : Type := Nat → Nat → Nat → List xV → List xV → xG → xD → xRes
def xcal (ih : xF) (d mi pc : Nat) (o : xOp) (ls st : List xV) (g : xG) (t : xD) : xRes := match d with
  | 0 => none
  | d + 1 => (match xpop (xnp o.2.1 + (if o.2.2.2.1 = 1 then 0 else 1)) st with
    | none => none
    | some (as, r) => if xcats r ≤ 8 ∧ (xspread as).length ≤ xml o.2.1 ∧ xrecvb o.2.2.2.1.toNat (o.2.2.2.2.headD 99) as g = true then (match ih d o.2.1 0 (xenter as (xml o.2.1)) [] g t with
      | none => none
      | some (v, g', t') => ih (d + 1) mi (pc + 3) ls (v.toList ++ r) g' t') else none)
/-- Math.min, Math.abs: the real machine has them by rules of their own -/
def xmath (ih : xF) (d mi pc : Nat) (o : xOp) (ls st : List xV) (g : xG) (t : xD) : xRes := match d with
  | 0 => none
  | d + 1 => if o.2.1 = 201 then (match st with
      | (0, y) :: (0, x) :: r => if xcats r ≤ 8 then ih (d + 1) mi (pc + 3) ls ((0, if y < x then y else x) :: r) g t else none
      | _ => none)
    else (match st with
      | (1, x) :: r => if xcats r ≤ 8 then ih (d + 1) mi (pc + 3) ls ((1, if 0 < x then x else xlneg x) :: r) g t else none
      | _ => none)
def xgo (ih : xF) : xF := fun d mi pc ls st g t => match xcode mi pc with
  | none => none
  | some ((_, len, _), o) =>
    if o.1 = 25 then (match xret mi o.2.1 st with
      | some r => some (r, g, t)
      | none => none)
    else if o.1 = 24 then (if 200 ≤ o.2.1 ∧ o.2.1 ≤ 201 then xmath ih d mi pc o ls st g t else xcal ih d mi pc o ls st g t)
    else (match xstep d mi len o pc ls st g t with
      | some q => ih d mi q.1 q.2.1 q.2.2.1 q.2.2.2.1 q.2.2.2.2
      | none => none)
noncomputable def xrun (n : Nat) : xF := Nat.rec (motive := fun _ => xF) (fun _ _ _ _ _ _ _ => none) (fun _ ih => xgo ih) n
theorem xrun_succ (n : Nat) : xrun (n + 1) = xgo (xrun n) := rfl
