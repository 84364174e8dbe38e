/-! THE ABSTRACT STATE (what the model's cells say), AND A STORE OF THE CLASS THAT HOLDS IT -/
def nN (m : xD) : Nat := (m 292 0).toNat
def nR (m : xD) (d : Nat) : Nat := (m 301 d).toNat
def nJ (m : xD) (n : Nat) : Nat := (m 298 n).toNat
def nL (m : xD) (n : Nat) : Nat := (m 294 n).toNat
def sSto (m : xD) (n : Nat) : Int := if m 296 n = 0 then m 297 n else m 296 n
def sRow (m : xD) (d : Nat) (x : Int) : Int := xix (nR m d) (xfst (fun r => decide (m 303 (12 * d + r) = x)) (nR m d))
def sCom (m : xD) : Int := xix 4 (xfst (fun d => decide (0 < m 300 d ∧ m 302 d = 2)) 4)
/-- a deal's phase, as the class has it -/
def sPha (m : xD) (d : Nat) : Int := if m 300 d = 0 then -1 else m 302 d
def sRec (m : xD) : Int := if ¬ sCom m = -1 ∧ 0 < m 292 13 then 1 else 0
def sApp (m : xD) : Int := if ¬ sCom m = -1 ∧ 0 < m 292 13 then m 292 13 - 1 else 0
/-- the first i bytes of a name's key -/
def kP (m : xD) (n : Nat) : Nat → Int
  | 0 => 0
  | i + 1 => kP m n i * 256 + (if (i : Int) < m 294 n then m 293 (8 * n + i) else 0)
def kK (m : xD) (n : Nat) : Int := kP m n 8
/-- the one is a folder of the other -/
def sFol (m : xD) (a b : Nat) : Prop := m 295 a < m 295 b ∧ nL m a < nL m b ∧ m 293 (8 * b + nL m a) = 47 ∧ ∀ i, i < nL m a → m 293 (8 * a + i) = m 293 (8 * b + i)
def bFol (m : xD) (a b : Nat) : Bool := decide (m 295 a < m 295 b ∧ nL m a < nL m b ∧ m 293 (8 * b + nL m a) = 47 ∧ ∀ i, i < nL m a → m 293 (8 * a + i) = m 293 (8 * b + i))
theorem bFol_iff {m : xD} {a b : Nat} : bFol m a b = true ↔ sFol m a b := decide_eq_true_iff
/-- two names clash -/
def bCla (m : xD) (a b : Nat) : Bool := bFol m a b || bFol m b a
def sKin (m : xD) (n : Nat) : Nat := xbits (fun j => bCla m n j) (nN m)
def wfN (m : xD) (n : Nat) : Prop := 1 ≤ m 294 n ∧ m 294 n ≤ 8 ∧ ∀ i : Nat, (i : Int) < m 294 n → 1 ≤ m 293 (8 * n + i) ∧ m 293 (8 * n + i) ≤ 127
def Inv (m : xD) : Prop :=
  (0 ≤ m 292 0 ∧ m 292 0 ≤ 12) ∧
  (∀ n, n < nN m → wfN m n) ∧
  (∀ n, n < nN m → 0 ≤ m 298 n ∧ m 298 n ≤ 6) ∧
  (∀ d, d < 4 → 0 ≤ m 300 d ∧ m 300 d ≤ 4 ∧ 0 ≤ m 301 d ∧ m 301 d ≤ 4 ∧ 0 ≤ m 302 d ∧ m 302 d ≤ 2) ∧
  (∀ d r, d < 4 → 0 < m 300 d → r < nR m d → 0 ≤ m 303 (12 * d + r) ∧ m 303 (12 * d + r) < m 292 0) ∧
  (∀ d r q, d < 4 → 0 < m 300 d → r < nR m d → q < nR m d → m 303 (12 * d + r) = m 303 (12 * d + q) → r = q) ∧
  (∀ d e, d < 4 → e < 4 → (0 < m 300 d ∧ m 302 d = 2) → (0 < m 300 e ∧ m 302 e = 2) → d = e) ∧
  (∀ d, d < 4 → (0 < m 300 d ∧ m 302 d = 2) → 0 ≤ m 292 13 ∧ m 292 13 ≤ m 301 d + 1) ∧
  (m 292 14 = 0 ∨ (m 292 14 = 1 ∧ -1 ≤ m 292 15 ∧ m 292 15 < m 292 0)) ∧
  (0 ≤ m 292 19 ∧ m 292 19 ≤ 5 ∧ ∀ i : Nat, (i : Int) < m 292 19 → 0 ≤ m 306 i ∧ m 306 i < m 292 0) ∧
  (0 ≤ m 292 22 ∧ m 292 22 ≤ 10 ∧ ∀ i : Nat, (i : Int) < m 292 22 → 0 ≤ m 308 i ∧ m 308 i ≤ 3 ∧ (m 308 i = 3 → 0 ≤ m 309 i ∧ m 309 i < m 292 0)) ∧
  (0 ≤ m 292 25 ∧ m 292 25 ≤ 8 ∧ ∀ i : Nat, (i : Int) < m 292 25 → 0 ≤ m 310 i ∧ m 310 i < m 292 0) ∧
  (∀ a b, a < nN m → b < nN m → kK m a = kK m b → a = b)
section IV
variable {m : xD}
theorem iN (h : Inv m) : 0 ≤ m 292 0 ∧ m 292 0 ≤ 12 := h.1
theorem iNn (h : Inv m) : m 292 0 = ((nN m : Nat) : Int) ∧ nN m ≤ 12 := by
  have := h.1
  unfold nN
  omega
theorem iW (h : Inv m) {n : Nat} (hn : n < nN m) : wfN m n := h.2.1 n hn
theorem iLn (h : Inv m) {n : Nat} (hn : n < nN m) : m 294 n = ((nL m n : Nat) : Int) ∧ nL m n ≤ 8 ∧ 1 ≤ nL m n := by
  have := iW h hn
  unfold wfN at this
  unfold nL
  omega
theorem iSg (h : Inv m) {n i : Nat} (hn : n < nN m) (hi : i < nL m n) : 1 ≤ m 293 (8 * n + i) ∧ m 293 (8 * n + i) ≤ 127 := (iW h hn).2.2 i (by have := iLn h hn; omega)
theorem iJ (h : Inv m) {n : Nat} (hn : n < nN m) : 0 ≤ m 298 n ∧ m 298 n ≤ 6 := h.2.2.1 n hn
theorem iJn (h : Inv m) {n : Nat} (hn : n < nN m) : m 298 n = ((nJ m n : Nat) : Int) ∧ nJ m n ≤ 6 := by
  have := iJ h hn
  unfold nJ
  omega
theorem iD (h : Inv m) {d : Nat} (hd : d < 4) : 0 ≤ m 300 d ∧ m 300 d ≤ 4 ∧ 0 ≤ m 301 d ∧ m 301 d ≤ 4 ∧ 0 ≤ m 302 d ∧ m 302 d ≤ 2 := h.2.2.2.1 d hd
theorem iRn (h : Inv m) {d : Nat} (hd : d < 4) : m 301 d = ((nR m d : Nat) : Int) ∧ nR m d ≤ 4 := by
  have := iD h hd
  unfold nR
  omega
theorem iRo (h : Inv m) {d r : Nat} (hd : d < 4) (hk : 0 < m 300 d) (hr : r < nR m d) : 0 ≤ m 303 (12 * d + r) ∧ m 303 (12 * d + r) < m 292 0 := h.2.2.2.2.1 d r hd hk hr
theorem iRd (h : Inv m) {d r q : Nat} (hd : d < 4) (hk : 0 < m 300 d) (hr : r < nR m d) (hq : q < nR m d) (e : m 303 (12 * d + r) = m 303 (12 * d + q)) : r = q := h.2.2.2.2.2.1 d r q hd hk hr hq e
theorem iC (h : Inv m) {d e : Nat} (hd : d < 4) (he : e < 4) (h1 : 0 < m 300 d ∧ m 302 d = 2) (h2 : 0 < m 300 e ∧ m 302 e = 2) : d = e := h.2.2.2.2.2.2.1 d e hd he h1 h2
theorem iO (h : Inv m) {d : Nat} (hd : d < 4) (h1 : 0 < m 300 d ∧ m 302 d = 2) : 0 ≤ m 292 13 ∧ m 292 13 ≤ m 301 d + 1 := h.2.2.2.2.2.2.2.1 d hd h1
theorem iP (h : Inv m) : m 292 14 = 0 ∨ (m 292 14 = 1 ∧ -1 ≤ m 292 15 ∧ m 292 15 < m 292 0) := h.2.2.2.2.2.2.2.2.1
theorem iS (h : Inv m) : 0 ≤ m 292 19 ∧ m 292 19 ≤ 5 ∧ ∀ i, ((i : Nat) : Int) < m 292 19 → 0 ≤ m 306 i ∧ m 306 i < m 292 0 := h.2.2.2.2.2.2.2.2.2.1
theorem iL (h : Inv m) : 0 ≤ m 292 22 ∧ m 292 22 ≤ 10 ∧ ∀ i, ((i : Nat) : Int) < m 292 22 → 0 ≤ m 308 i ∧ m 308 i ≤ 3 ∧ (m 308 i = 3 → 0 ≤ m 309 i ∧ m 309 i < m 292 0) := h.2.2.2.2.2.2.2.2.2.2.1
theorem iB (h : Inv m) : 0 ≤ m 292 25 ∧ m 292 25 ≤ 8 ∧ ∀ i, ((i : Nat) : Int) < m 292 25 → 0 ≤ m 310 i ∧ m 310 i < m 292 0 := h.2.2.2.2.2.2.2.2.2.2.2.1
theorem iK (h : Inv m) {a b : Nat} (ha : a < nN m) (hb : b < nN m) (e : kK m a = kK m b) : a = b := h.2.2.2.2.2.2.2.2.2.2.2.2 a b ha hb e
end IV
theorem sPha_c {m : xD} (h : Inv m) {d : Nat} (hd : d < 4) : (sPha m d = -1 ∧ m 300 d = 0) ∨ (sPha m d = m 302 d ∧ 0 < m 300 d ∧ m 300 d ≤ 4 ∧ 0 ≤ m 302 d ∧ m 302 d ≤ 2) := by
  have := iD h hd
  unfold sPha
  split <;> omega
def R1 (t : xD) (s : Nat) (m : xD) : Prop := (t (5 + 89 * s) 6 = m 292 0 ∧ t (5 + 89 * s) 7 = m 292 6 ∧ t (5 + 89 * s) 8 = sRec m ∧ t (5 + 89 * s) 9 = sApp m ∧ t (5 + 89 * s) 10 = m 292 14)
def R2 (t : xD) (s : Nat) (m : xD) : Prop := (m 292 14 = 1 → t (5 + 89 * s) 11 = (if m 292 15 = -1 then 0 else kK m (m 292 15).toNat))
def R3 (t : xD) (s : Nat) (m : xD) : Prop := (∀ n, n < nN m → t (18 + 89 * s + 5 * n) 1 = kK m n ∧ t (18 + 89 * s + 5 * n) 2 = m 294 n ∧ t (18 + 89 * s + 5 * n) 3 = m 295 n ∧ t (18 + 89 * s + 5 * n) 4 = ((sKin m n : Nat) : Int) ∧ t (18 + 89 * s + 5 * n) 5 = m 296 n ∧ t (18 + 89 * s + 5 * n) 6 = m 297 n ∧ t (18 + 89 * s + 5 * n) 7 = m 304 n)
def R4 (t : xD) (s : Nat) (m : xD) : Prop := (∀ n, n < nN m → t (18 + 89 * s + 5 * n + 1) 3 = m 298 n ∧ ∀ k : Nat, (k : Int) < m 298 n → t (18 + 89 * s + 5 * n + 1 + 1) k = m 299 (18 * n + 3 * k) ∧ t (18 + 89 * s + 5 * n + 1 + 2) k = m 299 (18 * n + 3 * k + 1) ∧ t (18 + 89 * s + 5 * n + 1 + 3) k = m 299 (18 * n + 3 * k + 2))
def R5 (t : xD) (s : Nat) (m : xD) : Prop := (∀ d, d < 4 → t (78 + 89 * s + 4 * d) 5 = sPha m d ∧ (0 < m 300 d → t (78 + 89 * s + 4 * d) 4 = m 300 d - 1 ∧ t (78 + 89 * s + 4 * d) 3 = m 301 d ∧ ∀ r : Nat, (r : Int) < m 301 d → t (78 + 89 * s + 4 * d + 1) r = m 303 (12 * d + r) ∧ t (78 + 89 * s + 4 * d + 2) r = m 303 (12 * d + 4 + r) ∧ t (78 + 89 * s + 4 * d + 3) r = m 303 (12 * d + 8 + r)))
def R6 (t : xD) (s : Nat) (m : xD) : Prop := (t (8 + 89 * s) 2 = 5 ∧ t (8 + 89 * s) 3 = m 292 19 ∧ ∀ i : Nat, (i : Int) < m 292 19 → t (8 + 89 * s + 1) i = m 306 i ∧ t (8 + 89 * s + 2) i = m 307 i)
def R7 (t : xD) (s : Nat) (m : xD) : Prop := (t (11 + 89 * s) 2 = 10 ∧ t (11 + 89 * s) 3 = m 292 22 ∧ ∀ i : Nat, (i : Int) < m 292 22 → t (11 + 89 * s + 1) i = m 308 i ∧ (m 308 i = 3 → t (11 + 89 * s + 2) i = m 309 i))
def R8 (t : xD) (s : Nat) (m : xD) : Prop := (t (14 + 89 * s) 2 = 8 ∧ t (14 + 89 * s) 3 = m 292 25 ∧ ∀ i : Nat, (i : Int) < m 292 25 → t (14 + 89 * s + 1) i = m 310 i ∧ t (14 + 89 * s + 2) i = m 311 i)
/-- the store s of t holds the abstract state m -/
def Rep (t : xD) (s : Nat) (m : xD) : Prop := R1 t s m ∧ R2 t s m ∧ R3 t s m ∧ R4 t s m ∧ R5 t s m ∧ R6 t s m ∧ R7 t s m ∧ R8 t s m
section RV
variable {t m : xD} {s : Nat}
theorem rN (h : Rep t s m) : t (5 + 89 * s) 6 = m 292 0 := h.1.1
theorem rNn (h : Rep t s m) (hI : Inv m) : t (5 + 89 * s) 6 = ((nN m : Nat) : Int) := h.1.1.trans (iNn hI).1
theorem rT (h : Rep t s m) : t (5 + 89 * s) 7 = m 292 6 := h.1.2.1
theorem rRec (h : Rep t s m) : t (5 + 89 * s) 8 = sRec m := h.1.2.2.1
theorem rApp (h : Rep t s m) : t (5 + 89 * s) 9 = sApp m := h.1.2.2.2.1
theorem rRun (h : Rep t s m) : t (5 + 89 * s) 10 = m 292 14 := h.1.2.2.2.2
theorem rRea (h : Rep t s m) (e : m 292 14 = 1) : t (5 + 89 * s) 11 = (if m 292 15 = -1 then 0 else kK m (m 292 15).toNat) := h.2.1 e
theorem rKey (h : Rep t s m) {n : Nat} (hn : n < nN m) : t (18 + 89 * s + 5 * n) 1 = kK m n := (h.2.2.1 n hn).1
theorem rLen (h : Rep t s m) {n : Nat} (hn : n < nN m) : t (18 + 89 * s + 5 * n) 2 = m 294 n := (h.2.2.1 n hn).2.1
theorem rPar (h : Rep t s m) {n : Nat} (hn : n < nN m) : t (18 + 89 * s + 5 * n) 3 = m 295 n := (h.2.2.1 n hn).2.2.1
theorem rKin (h : Rep t s m) {n : Nat} (hn : n < nN m) : t (18 + 89 * s + 5 * n) 4 = ((sKin m n : Nat) : Int) := (h.2.2.1 n hn).2.2.2.1
theorem rLoo (h : Rep t s m) {n : Nat} (hn : n < nN m) : t (18 + 89 * s + 5 * n) 5 = m 296 n := (h.2.2.1 n hn).2.2.2.2.1
theorem rPac (h : Rep t s m) {n : Nat} (hn : n < nN m) : t (18 + 89 * s + 5 * n) 6 = m 297 n := (h.2.2.1 n hn).2.2.2.2.2.1
theorem rWro (h : Rep t s m) {n : Nat} (hn : n < nN m) : t (18 + 89 * s + 5 * n) 7 = m 304 n := (h.2.2.1 n hn).2.2.2.2.2.2
theorem rJn (h : Rep t s m) {n : Nat} (hn : n < nN m) : t (18 + 89 * s + 5 * n + 1) 3 = m 298 n := (h.2.2.2.1 n hn).1
theorem rJ1 (h : Rep t s m) {n k : Nat} (hn : n < nN m) (hk : (k : Int) < m 298 n) : t (18 + 89 * s + 5 * n + 1 + 1) k = m 299 (18 * n + 3 * k) := ((h.2.2.2.1 n hn).2 k hk).1
theorem rJ2 (h : Rep t s m) {n k : Nat} (hn : n < nN m) (hk : (k : Int) < m 298 n) : t (18 + 89 * s + 5 * n + 1 + 2) k = m 299 (18 * n + 3 * k + 1) := ((h.2.2.2.1 n hn).2 k hk).2.1
theorem rJ3 (h : Rep t s m) {n k : Nat} (hn : n < nN m) (hk : (k : Int) < m 298 n) : t (18 + 89 * s + 5 * n + 1 + 3) k = m 299 (18 * n + 3 * k + 2) := ((h.2.2.2.1 n hn).2 k hk).2.2
theorem rPha (h : Rep t s m) {d : Nat} (hd : d < 4) : t (78 + 89 * s + 4 * d) 5 = sPha m d := (h.2.2.2.2.1 d hd).1
theorem rKnd (h : Rep t s m) {d : Nat} (hd : d < 4) (hk : 0 < m 300 d) : t (78 + 89 * s + 4 * d) 4 = m 300 d - 1 := ((h.2.2.2.2.1 d hd).2 hk).1
theorem rRow (h : Rep t s m) {d : Nat} (hd : d < 4) (hk : 0 < m 300 d) : t (78 + 89 * s + 4 * d) 3 = m 301 d := ((h.2.2.2.2.1 d hd).2 hk).2.1
theorem rR1 (h : Rep t s m) {d r : Nat} (hd : d < 4) (hk : 0 < m 300 d) (hr : (r : Int) < m 301 d) : t (78 + 89 * s + 4 * d + 1) r = m 303 (12 * d + r) := (((h.2.2.2.2.1 d hd).2 hk).2.2 r hr).1
theorem rR2 (h : Rep t s m) {d r : Nat} (hd : d < 4) (hk : 0 < m 300 d) (hr : (r : Int) < m 301 d) : t (78 + 89 * s + 4 * d + 2) r = m 303 (12 * d + 4 + r) := (((h.2.2.2.2.1 d hd).2 hk).2.2 r hr).2.1
theorem rR3 (h : Rep t s m) {d r : Nat} (hd : d < 4) (hk : 0 < m 300 d) (hr : (r : Int) < m 301 d) : t (78 + 89 * s + 4 * d + 3) r = m 303 (12 * d + 8 + r) := (((h.2.2.2.2.1 d hd).2 hk).2.2 r hr).2.2
theorem rSm (h : Rep t s m) : t (8 + 89 * s) 2 = 5 := h.2.2.2.2.2.1.1
theorem rSn (h : Rep t s m) : t (8 + 89 * s) 3 = m 292 19 := h.2.2.2.2.2.1.2.1
theorem rS1 (h : Rep t s m) {i : Nat} (hi : (i : Int) < m 292 19) : t (8 + 89 * s + 1) i = m 306 i := (h.2.2.2.2.2.1.2.2 i hi).1
theorem rS2 (h : Rep t s m) {i : Nat} (hi : (i : Int) < m 292 19) : t (8 + 89 * s + 2) i = m 307 i := (h.2.2.2.2.2.1.2.2 i hi).2
theorem rLm (h : Rep t s m) : t (11 + 89 * s) 2 = 10 := h.2.2.2.2.2.2.1.1
theorem rLn (h : Rep t s m) : t (11 + 89 * s) 3 = m 292 22 := h.2.2.2.2.2.2.1.2.1
theorem rL1 (h : Rep t s m) {i : Nat} (hi : (i : Int) < m 292 22) : t (11 + 89 * s + 1) i = m 308 i := (h.2.2.2.2.2.2.1.2.2 i hi).1
theorem rL2 (h : Rep t s m) {i : Nat} (hi : (i : Int) < m 292 22) (e : m 308 i = 3) : t (11 + 89 * s + 2) i = m 309 i := (h.2.2.2.2.2.2.1.2.2 i hi).2 e
theorem rBm (h : Rep t s m) : t (14 + 89 * s) 2 = 8 := h.2.2.2.2.2.2.2.1
theorem rBn (h : Rep t s m) : t (14 + 89 * s) 3 = m 292 25 := h.2.2.2.2.2.2.2.2.1
theorem rB1 (h : Rep t s m) {i : Nat} (hi : (i : Int) < m 292 25) : t (14 + 89 * s + 1) i = m 310 i := (h.2.2.2.2.2.2.2.2.2 i hi).1
theorem rB2 (h : Rep t s m) {i : Nat} (hi : (i : Int) < m 292 25) : t (14 + 89 * s + 2) i = m 311 i := (h.2.2.2.2.2.2.2.2.2 i hi).2
end RV
/-- the store s's cells are the same in both -/
def Sto (s : Nat) (t u : xD) : Prop := ∀ a k, 5 + 89 * s ≤ a → a < 94 + 89 * s → u a k = t a k
/-- nothing but the store s's cells has changed -/
def Fr (s : Nat) (t u : xD) : Prop := ∀ a k, ¬ (5 + 89 * s ≤ a ∧ a < 94 + 89 * s) → u a k = t a k
theorem Fr.rf {s : Nat} {t : xD} : Fr s t t := fun _ _ _ => rfl
theorem Fr.tr {s : Nat} {t u v : xD} (h1 : Fr s t u) (h2 : Fr s u v) : Fr s t v := fun a k h => (h2 a k h).trans (h1 a k h)
/-- nothing below 292 has changed -/
def Md (t u : xD) : Prop := ∀ a k, a < 292 → u a k = t a k
theorem R1.fr {t u m : xD} {s : Nat} (h : R1 t s m) (e : ∀ k, u (5 + 89 * s) k = t (5 + 89 * s) k) : R1 u s m := by
  unfold R1
  simp only [e]
  exact h
theorem R2.fr {t u m : xD} {s : Nat} (h : R2 t s m) (e : ∀ k, u (5 + 89 * s) k = t (5 + 89 * s) k) : R2 u s m := by
  unfold R2
  simp only [e]
  exact h
theorem R3.fr {t u m : xD} {s : Nat} (h : R3 t s m) (e : ∀ n k, n < nN m → u (18 + 89 * s + 5 * n) k = t (18 + 89 * s + 5 * n) k) : R3 u s m := by
  intro n hn
  simp only [e n _ hn]
  exact h n hn
theorem R4.fr {t u m : xD} {s : Nat} (h : R4 t s m) (e : ∀ n j k, n < nN m → j < 4 → u (18 + 89 * s + 5 * n + 1 + j) k = t (18 + 89 * s + 5 * n + 1 + j) k) : R4 u s m := by
  intro n hn
  have e0 := fun k => e n 0 k hn (by omega)
  simp only [Nat.add_zero] at e0
  simp only [e0, e n 1 _ hn (by omega), e n 2 _ hn (by omega), e n 3 _ hn (by omega)]
  exact h n hn
theorem R5.fr {t u m : xD} {s : Nat} (h : R5 t s m) (e : ∀ d j k, d < 4 → j < 4 → u (78 + 89 * s + 4 * d + j) k = t (78 + 89 * s + 4 * d + j) k) : R5 u s m := by
  intro d hd
  have e0 := fun k => e d 0 k hd (by omega)
  simp only [Nat.add_zero] at e0
  simp only [e0, e d 1 _ hd (by omega), e d 2 _ hd (by omega), e d 3 _ hd (by omega)]
  exact h d hd
theorem R6.fr {t u m : xD} {s : Nat} (h : R6 t s m) (e : ∀ j k, j < 3 → u (8 + 89 * s + j) k = t (8 + 89 * s + j) k) : R6 u s m := by
  have e0 := fun k => e 0 k (by omega)
  simp only [Nat.add_zero] at e0
  unfold R6
  simp only [e0, e 1 _ (by omega), e 2 _ (by omega)]
  exact h
theorem R7.fr {t u m : xD} {s : Nat} (h : R7 t s m) (e : ∀ j k, j < 3 → u (11 + 89 * s + j) k = t (11 + 89 * s + j) k) : R7 u s m := by
  have e0 := fun k => e 0 k (by omega)
  simp only [Nat.add_zero] at e0
  unfold R7
  simp only [e0, e 1 _ (by omega), e 2 _ (by omega)]
  exact h
theorem R8.fr {t u m : xD} {s : Nat} (h : R8 t s m) (e : ∀ j k, j < 3 → u (14 + 89 * s + j) k = t (14 + 89 * s + j) k) : R8 u s m := by
  have e0 := fun k => e 0 k (by omega)
  simp only [Nat.add_zero] at e0
  unfold R8
  simp only [e0, e 1 _ (by omega), e 2 _ (by omega)]
  exact h
theorem Rep.st {t u m : xD} {s : Nat} (h : Rep t s m) (hI : Inv m) (e : Sto s t u) : Rep u s m := by
  have hN := (iNn hI).2
  exact ⟨h.1.fr (fun k => e _ k (by omega) (by omega)), h.2.1.fr (fun k => e _ k (by omega) (by omega)), h.2.2.1.fr (fun n k hn => e _ k (by omega) (by omega)), h.2.2.2.1.fr (fun n j k hn hj => e _ k (by omega) (by omega)), h.2.2.2.2.1.fr (fun d j k hd hj => e _ k (by omega) (by omega)), h.2.2.2.2.2.1.fr (fun j k hj => e _ k (by omega) (by omega)), h.2.2.2.2.2.2.1.fr (fun j k hj => e _ k (by omega) (by omega)), h.2.2.2.2.2.2.2.fr (fun j k hj => e _ k (by omega) (by omega))⟩
/-- what of the abstract state counts -/
def vis (a k : Nat) : Bool := bif Nat.blt a 293 then (bif Nat.beq a 292 then (Nat.beq k 0 || Nat.beq k 6 || Nat.beq k 13 || Nat.beq k 14 || Nat.beq k 15 || Nat.beq k 19 || Nat.beq k 22 || Nat.beq k 25) else false) else (bif Nat.blt a 305 then true else (bif Nat.blt a 306 then false else Nat.blt a 312))
def vw (m : xD) : xD := fun a k => bif vis a k then m a k else 0
theorem Rep_vw {t m : xD} {s : Nat} : Rep t s (vw m) = Rep t s m := rfl
theorem Inv_vw {m : xD} : Inv (vw m) = Inv m := rfl
theorem Rep.vi {t m u : xD} {s : Nat} (h : Rep t s m) (e : vw m = vw u) : Rep t s u := by
  rw [← Rep_vw, ← e, Rep_vw]
  exact h
theorem Inv.vi {m u : xD} (h : Inv m) (e : vw m = vw u) : Inv u := by
  rw [← Inv_vw, ← e, Inv_vw]
  exact h
/-- the model's cells hold the abstract state m -/
def Mo (t m : xD) : Prop := ∀ a k, 292 ≤ a → t a k = m a k
theorem Mo.up {t m : xD} (h : Mo t m) {a k : Nat} {x : Int} : Mo (xupd t a k x) (xupd m a k x) := fun b j hb => by
  show (if b = a ∧ j = k then x else t b j) = (if b = a ∧ j = k then x else m b j)
  rw [h b j hb]
theorem Mo.lo {t u m : xD} (h : Mo t m) (e : ∀ a k, 292 ≤ a → u a k = t a k) : Mo u m := fun a k ha => (e a k ha).trans (h a k ha)
theorem Mo.fr {t u m : xD} {s : Nat} (h : Mo t m) (hs : s < 3) (e : Fr s t u) : Mo u m := fun a k ha => (e a k (by omega)).trans (h a k ha)
theorem Mo.vi {t m : xD} (h : Mo t m) : vw t = vw m := by
  funext a k
  unfold vw
  by_cases c : 292 ≤ a
  · rw [h a k c]
  · have : vis a k = false := by
      unfold vis
      rw [show Nat.blt a 293 = true from Nat.blt_eq.mpr (by omega), show Nat.beq a 292 = false from by
        cases e : Nat.beq a 292
        · rfl
        · exact absurd (Nat.eq_of_beq_eq_true e) (by omega)]
      rfl
    rw [this]
    rfl
theorem Md.rf {t : xD} : Md t t := fun _ _ _ => rfl
theorem Md.up {t u : xD} (h : Md t u) {a k : Nat} {x : Int} (ha : 292 ≤ a) : Md t (xupd u a k x) := fun b j hb => (xupd_ne (by omega)).trans (h b j hb)
theorem Md.tr {t u v : xD} (h1 : Md t u) (h2 : Md u v) : Md t v := fun a k h => (h2 a k h).trans (h1 a k h)
/-- the model's end: the answer and the new state are S -/
abbrev yQ (g : xG) (t : xD) (S : Option xV × xD) : Option xV → xG → xD → Prop := fun r g1 t1 => g1 = g ∧ r = S.1 ∧ Mo t1 S.2 ∧ Md t t1
theorem yRet {g : xG} {t u m : xD} {S : Option xV × xD} {r : Option xV} (e : S = (r, m)) (h1 : Mo u m) (h2 : Md t u) : yQ g t S r g u := by
  rw [e]
  exact ⟨rfl, rfl, h1, h2⟩
/-- the class's end: the answer, and the store s holds the new state -/
abbrev zQ (s : Nat) (g : xG) (t : xD) (S : Option xV × xD) : Option xV → xG → xD → Prop := fun r g1 t1 => g1 = g ∧ r = S.1 ∧ Rep t1 s S.2 ∧ Fr s t t1
theorem zRet {s : Nat} {g : xG} {t u m : xD} {S : Option xV × xD} {r : Option xV} (e : S = (r, m)) (h1 : Rep u s m) (h2 : Fr s t u) : zQ s g t S r g u := by
  rw [e]
  exact ⟨rfl, rfl, h1, h2⟩
theorem Fr.up {s : Nat} {t u : xD} (h : Fr s t u) {a k : Nat} {x : Int} (h1 : 5 + 89 * s ≤ a) (h2 : a < 94 + 89 * s) : Fr s t (xupd u a k x) := fun b j hb => (xupd_ne (by omega)).trans (h b j hb)
/-- the text, the tapes, as the model has them -/
def MX (m : xD) : Prop := 0 ≤ m 292 17 ∧ m 292 17 ≤ 100 ∧ ∀ i : Nat, (i : Int) < m 292 17 → 0 ≤ m 305 i ∧ m 305 i ≤ 127
def MT (m : xD) : Prop := ∀ k, k < 6 → -1 ≤ m 316 k ∧ m 316 k ≤ 4 ∧ 0 ≤ m 317 k ∧ m 317 k ≤ 60 ∧ (m 316 k = -1 → m 317 k = 0)
