/-! THE STEPS OF THE ABSTRACT STATE -/
/-- cells moved down -/
def xsh (t : xD) (a lo e i : Nat) : xD := fun b j => if b = a ∧ lo ≤ j ∧ j < lo + i then t b (j + e) else t b j
theorem xsh_0 {t : xD} {a lo e : Nat} : xsh t a lo e 0 = t := by
  funext b j
  exact if_neg (by omega)
theorem xsh_ne {t : xD} {a lo e i b j : Nat} (h : ¬ (b = a ∧ lo ≤ j ∧ j < lo + i)) : xsh t a lo e i b j = t b j := if_neg h
theorem xsh_eq {t : xD} {a lo e i j : Nat} (h : lo ≤ j ∧ j < lo + i) : xsh t a lo e i a j = t a (j + e) := if_pos ⟨rfl, h⟩
theorem xsh_up {t : xD} {a lo e i k : Nat} (hk : k = lo + i) : xupd (xsh t a lo e i) a k (t a (k + e)) = xsh t a lo e (i + 1) := by
  subst hk
  funext b j
  unfold xupd xsh
  by_cases h : b = a ∧ j = lo + i
  · rw [if_pos h, if_pos (by omega), h.1, h.2]
  · rw [if_neg h]
    by_cases h2 : b = a ∧ lo ≤ j ∧ j < lo + i
    · rw [if_pos h2, if_pos (by omega)]
    · rw [if_neg h2, if_neg (by omega)]
theorem Mo.sh {t m : xD} (h : Mo t m) {a lo e i : Nat} (ha : 292 ≤ a) : Mo (xsh t a lo e i) (xsh m a lo e i) := fun b j hb => by
  show (if b = a ∧ lo ≤ j ∧ j < lo + i then t b (j + e) else t b j) = (if b = a ∧ lo ≤ j ∧ j < lo + i then m b (j + e) else m b j)
  rw [h b j hb, h b (j + e) hb]
theorem Md.sh {t u : xD} (h : Md t u) {a lo e i : Nat} (ha : 292 ≤ a) : Md t (xsh u a lo e i) := fun b j hb => (xsh_ne (by omega)).trans (h b j hb)
def tDrop (m : xD) (n : Nat) : xD := xsh (xupd m 298 n ((nJ m n - 1 : Nat) : Int)) 299 (18 * n) 3 (3 * (nJ m n - 1))
def tRow (m : xD) (n : Nat) (was is : Int) : xD := xupd (xupd (xupd (xupd m 299 (18 * n + 3 * nJ m n) (m 292 6)) 299 (18 * n + 3 * nJ m n + 1) was) 299 (18 * n + 3 * nJ m n + 2) is) 298 n ((nJ m n + 1 : Nat) : Int)
def tNote (m : xD) (n : Nat) (was is : Int) : xD := if nJ m n = 6 then tRow (tDrop m n) n was is else tRow m n was is
/-- a revision comes to a name -/
def tSet (m : xD) (n : Nat) (f : Int) : xD := if f = 0 then xupd (xupd m 296 n f) 297 n 0 else xupd m 296 n f
def tApp (m : xD) (d r : Nat) : xD := tNote (tSet m (m 303 (12 * d + r)).toNat (m 303 (12 * d + 8 + r))) (m 303 (12 * d + r)).toNat (sSto m (m 303 (12 * d + r)).toNat) (m 303 (12 * d + 8 + r))
/-- a step of the deal that is committing -/
def tCom (m : xD) : Int × xD :=
  if sCom m = -1 then (0, m) else
  if m 301 (sCom m).toNat < m 292 13 then (1, xupd (xupd (xupd m 300 (sCom m).toNat 0) 292 6 (xadd (m 292 6) 1)) 292 13 (m 292 13 + 1)) else
  if m 292 13 ≤ 0 then (1, xupd m 292 13 (m 292 13 + 1)) else (1, xupd (tApp m (sCom m).toNat (m 292 13 - 1).toNat) 292 13 (m 292 13 + 1))
/-- the next name that a repack comes to -/
def pNx (m : xD) (n : Nat) : Prop := ¬ sSto m n = 0 ∧ (m 292 15 = -1 ∨ kK m (m 292 15).toNat < kK m n)
def bNx (m : xD) (n : Nat) : Bool := decide (¬ sSto m n = 0 ∧ (m 292 15 = -1 ∨ kK m (m 292 15).toNat < kK m n))
theorem bNx_iff {m : xD} {n : Nat} : bNx m n = true ↔ pNx m n := decide_eq_true_iff
/-- the one of least key below K, or -1 -/
def sNx (m : xD) : Nat → Int
  | 0 => -1
  | K + 1 => if bNx m K = true then (if sNx m K = -1 then ((K : Nat) : Int) else if kK m K < kK m (sNx m K).toNat then ((K : Nat) : Int) else sNx m K) else sNx m K
theorem sNx_ok {m : xD} : ∀ K, (sNx m K = -1 ∧ ∀ i, i < K → ¬ bNx m i = true) ∨ (0 ≤ sNx m K ∧ sNx m K < K ∧ bNx m (sNx m K).toNat = true ∧ ∀ i, i < K → bNx m i = true → kK m (sNx m K).toNat ≤ kK m i)
  | 0 => .inl ⟨rfl, fun i hi => absurd hi (Nat.not_lt_zero i)⟩
  | K + 1 => by
    have ih := sNx_ok (m := m) K
    by_cases c : bNx m K = true
    · have e : sNx m (K + 1) = (if sNx m K = -1 then ((K : Nat) : Int) else if kK m K < kK m (sNx m K).toNat then ((K : Nat) : Int) else sNx m K) := if_pos c
      rw [e]
      right
      rcases ih with ⟨h1, h2⟩ | ⟨h1, h2, h3, h4⟩
      · rw [if_pos h1]
        refine ⟨by omega, by omega, c, fun i hi hb => ?_⟩
        by_cases e2 : i = K
        · rw [e2]; exact Int.le_refl _
        · exact absurd hb (h2 i (by omega))
      · rw [if_neg (by omega)]
        by_cases c2 : kK m K < kK m (sNx m K).toNat
        · rw [if_pos c2]
          refine ⟨by omega, by omega, c, fun i hi hb => ?_⟩
          by_cases e2 : i = K
          · rw [e2]; exact Int.le_refl _
          · have := h4 i (by omega) hb
            show kK m K ≤ _
            omega
        · rw [if_neg c2]
          refine ⟨h1, by omega, h3, fun i hi hb => ?_⟩
          by_cases e2 : i = K
          · rw [e2]; omega
          · exact h4 i (by omega) hb
    · have e : sNx m (K + 1) = sNx m K := if_neg c
      rw [e]
      rcases ih with ⟨h1, h2⟩ | ⟨h1, h2, h3, h4⟩
      · refine .inl ⟨h1, fun i hi => ?_⟩
        by_cases e2 : i = K
        · rw [e2]; exact c
        · exact h2 i (by omega)
      · refine .inr ⟨h1, by omega, h3, fun i hi hb => ?_⟩
        by_cases e2 : i = K
        · rw [e2] at hb; exact absurd hb c
        · exact h4 i (by omega) hb
def tPk (m : xD) (n : Nat) : Int := if sSto m n = 0 then 0 else m 304 n
/-- the end of a repack, for the names below K -/
def tEnd (m : xD) (K : Nat) : xD := fun a k => if a = 297 ∧ k < K then tPk m k else if a = 296 ∧ k < K then (if m 296 k = tPk m k then 0 else m 296 k) else m a k
/-- a step of the repack -/
def tRep (m : xD) : Int × xD :=
  if m 292 14 = 0 then (0, m) else
  if sNx m (nN m) = -1 then (1, tEnd (xupd m 292 14 0) (nN m)) else (1, xupd (xupd m 292 15 (sNx m (nN m))) 304 (sNx m (nN m)).toNat (sSto m (sNx m (nN m)).toNat))
def tGo (k : Int) (m : xD) : Int × xD := if k = 0 then tCom m else tRep m
/-- at most so many steps: how many, and what is then -/
def tSt (k : Int) : Nat → xD → Nat × xD
  | 0, m => (0, m)
  | n + 1, m => if (tGo k m).1 = 0 then (0, m) else ((tSt k n (tGo k m).2).1 + 1, (tSt k n (tGo k m).2).2)
def tKil (m : xD) : xD := fun a k => if a = 300 ∧ k < 4 then 0 else m a k
def tCr (m : xD) : xD := xupd (tKil (if sCom m = -1 then m else if m 292 13 ≤ 0 then m else (tSt 0 9 m).2)) 292 14 0
/-- what a step of a deal leaves alone -/
def Kp (m u : xD) : Prop := ∀ a k, ¬ (a = 296 ∨ a = 297 ∨ a = 298 ∨ a = 299) → u a k = m a k
theorem tDrop_kp {m : xD} {n : Nat} : Kp m (tDrop m n) := fun a k h => (xsh_ne (by omega)).trans (xupd_ne (by omega))
theorem tRow_kp {m : xD} {n : Nat} {was is : Int} : Kp m (tRow m n was is) := fun a k h => (xupd_ne (by omega)).trans ((xupd_ne (by omega)).trans ((xupd_ne (by omega)).trans (xupd_ne (by omega))))
theorem Kp.tr {m u v : xD} (h1 : Kp m u) (h2 : Kp u v) : Kp m v := fun a k h => (h2 a k h).trans (h1 a k h)
theorem tNote_kp {m : xD} {n : Nat} {was is : Int} : Kp m (tNote m n was is) := by
  unfold tNote
  split
  · exact tDrop_kp.tr tRow_kp
  · exact tRow_kp
theorem tSet_kp {m : xD} {n : Nat} {f : Int} : Kp m (tSet m n f) := by
  unfold tSet
  split
  · exact fun a k h => (xupd_ne (by omega)).trans (xupd_ne (by omega))
  · exact fun a k h => xupd_ne (by omega)
theorem tApp_kp {m : xD} {d r : Nat} : Kp m (tApp m d r) := tSet_kp.tr tNote_kp
theorem tDrop_98 {m : xD} {n q : Nat} : tDrop m n 298 q = if q = n then ((nJ m n - 1 : Nat) : Int) else m 298 q := by
  rw [show tDrop m n 298 q = xupd m 298 n ((nJ m n - 1 : Nat) : Int) 298 q from xsh_ne (by omega)]
  unfold xupd
  by_cases c : q = n
  · rw [if_pos ⟨rfl, c⟩, if_pos c]
  · rw [if_neg (fun h => c h.2), if_neg c]
theorem tDrop_J {m : xD} {n : Nat} : nJ (tDrop m n) n = nJ m n - 1 := by
  unfold nJ
  rw [tDrop_98, if_pos rfl]
  rfl
theorem tDrop_99 {m : xD} {n k : Nat} (h : k < 3 * (nJ m n - 1)) : tDrop m n 299 (18 * n + k) = m 299 (18 * n + k + 3) := (xsh_eq (by omega)).trans (xupd_ne (by omega))
theorem tDrop_9o {m : xD} {n q k : Nat} (h : q ≠ n) (hk : k < 18) (h6 : nJ m n ≤ 6) : tDrop m n 299 (18 * q + k) = m 299 (18 * q + k) := (xsh_ne (by omega)).trans (xupd_ne (by omega))
theorem Mo.ups {t m : xD} {a lo e i k : Nat} {x : Int} (h : Mo t (xsh m a lo e i)) (hk : k = lo + i) (hx : x = m a (k + e)) : Mo (xupd t a k x) (xsh m a lo e (i + 1)) := by
  rw [← xsh_up hk, hx]
  exact h.up
theorem tDrop_n {m : xD} {n : Nat} : tDrop m n 298 n = ((nJ (tDrop m n) n : Nat) : Int) := by
  rw [tDrop_98, if_pos rfl, tDrop_J]
theorem Inv.set {m : xD} (h : Inv m) {n : Nat} {f : Int} : Inv (tSet m n f) := by
  unfold tSet
  split
  · exact h
  · exact h
theorem tSet_J {m : xD} {n q : Nat} {f : Int} : nJ (tSet m n f) q = nJ m q := by
  unfold tSet
  split <;> rfl
theorem tSet_lt {m : xD} {n q : Nat} {f : Int} (h : q < nN m) : q < nN (tSet m n f) := by
  unfold tSet
  split <;> exact h
