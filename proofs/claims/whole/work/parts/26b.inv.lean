/-! THE STEPS KEEP THE INVARIANT -/
/-- what a name's journal is behind a note -/
theorem tRow_98 {m : xD} {n q : Nat} {w i : Int} : tRow m n w i 298 q = if q = n then ((nJ m n + 1 : Nat) : Int) else m 298 q := by
  unfold tRow
  by_cases c : q = n
  · rw [if_pos c, c]; exact xupd_eq
  · rw [if_neg c]
    exact (xupd_ne (by omega)).trans ((xupd_ne (by omega)).trans ((xupd_ne (by omega)).trans (xupd_ne (by omega))))
theorem tNote_98 {m : xD} {n q : Nat} {w i : Int} : tNote m n w i 298 q = if q = n then (if nJ m n = 6 then 6 else ((nJ m n + 1 : Nat) : Int)) else m 298 q := by
  unfold tNote
  by_cases h : nJ m n = 6
  · rw [if_pos h, tRow_98, tDrop_J, h]
    by_cases c : q = n
    · rw [if_pos c, if_pos c, if_pos rfl]; rfl
    · rw [if_neg c, if_neg c, tDrop_98, if_neg c]
  · rw [if_neg h, tRow_98]
    by_cases c : q = n
    · rw [if_pos c, if_pos c, if_neg h]
    · rw [if_neg c, if_neg c]
theorem Inv.kp {m u : xD} (h : Inv m) (k : Kp m u) (hJ : ∀ n, n < nN m → 0 ≤ u 298 n ∧ u 298 n ≤ 6) : Inv u := by
  have e : vw (fun a k => if a = 296 ∨ a = 297 ∨ a = 298 ∨ a = 299 then 0 else m a k) = vw (fun a k => if a = 296 ∨ a = 297 ∨ a = 298 ∨ a = 299 then 0 else u a k) := by
    congr 1
    funext a j
    by_cases c : a = 296 ∨ a = 297 ∨ a = 298 ∨ a = 299
    · rw [if_pos c, if_pos c]
    · rw [if_neg c, if_neg c, k a j c]
  have h0 : Inv (fun a k => if a = 296 ∨ a = 297 ∨ a = 298 ∨ a = 299 then 0 else m a k) := ⟨h.1, h.2.1, fun n _ => ⟨Int.le_refl 0, (by decide : (0 : Int) ≤ 6)⟩, h.2.2.2⟩
  have h1 : Inv (fun a k => if a = 296 ∨ a = 297 ∨ a = 298 ∨ a = 299 then 0 else u a k) := h0.vi e
  have eN : nN u = nN m := by unfold nN; rw [k 292 0 (by decide)]
  exact ⟨h1.1, h1.2.1, fun n hn => hJ n (by rw [← eN]; exact hn), h1.2.2.2⟩
theorem Inv.note {m : xD} (h : Inv m) {n : Nat} {w i : Int} (hn : n < nN m) : Inv (tNote m n w i) := h.kp tNote_kp (fun q hq => by
  have a := iJn h hn
  have b := iJ h hq
  rw [tNote_98]
  split
  · split <;> omega
  · exact b)
theorem Inv.app {m : xD} (h : Inv m) {d r : Nat} (hd : d < 4) (hk : 0 < m 300 d) (hr : r < nR m d) : Inv (tApp m d r) := by
  have a := iRo h hd hk hr
  have b := iNn h
  exact Inv.note h.set (tSet_lt (by omega))
theorem Inv.done {m : xD} (h : Inv m) {x : Int} (hx : ∀ d, d < 4 → (0 < m 300 d ∧ m 302 d = 2) → 0 ≤ x ∧ x ≤ m 301 d + 1) : Inv (xupd m 292 13 x) :=
  ⟨h.1, h.2.1, h.2.2.1, h.2.2.2.1, h.2.2.2.2.1, h.2.2.2.2.2.1, h.2.2.2.2.2.2.1, hx, h.2.2.2.2.2.2.2.2⟩
theorem xupd_c {t : xD} {a k j : Nat} {x : Int} : xupd t a k x a j = if j = k then x else t a j := by
  unfold xupd
  by_cases c : j = k
  · rw [if_pos ⟨rfl, c⟩, if_pos c]
  · rw [if_neg (fun h => c h.2), if_neg c]
/-- a deal goes -/
theorem Inv.gone {m : xD} (h : Inv m) {d : Nat} : Inv (xupd m 300 d 0) := by
  have e : ∀ j, 0 < xupd m 300 d 0 300 j → 0 < m 300 j := fun j hj => by
    rw [xupd_c] at hj
    split at hj
    · exact absurd hj (by decide)
    · exact hj
  refine ⟨h.1, h.2.1, h.2.2.1, fun j hj => ?_, fun j r hj hk => h.2.2.2.2.1 j r hj (e j hk), fun j r q hj hk => h.2.2.2.2.2.1 j r q hj (e j hk), fun a b ha hb h1 h2 => h.2.2.2.2.2.2.1 a b ha hb ⟨e a h1.1, h1.2⟩ ⟨e b h2.1, h2.2⟩, fun j hj h1 => h.2.2.2.2.2.2.2.1 j hj ⟨e j h1.1, h1.2⟩, h.2.2.2.2.2.2.2.2⟩
  have := h.2.2.2.1 j hj
  rw [xupd_c]
  split
  · exact ⟨Int.le_refl 0, by decide, this.2.2⟩
  · exact this
theorem Inv.com {m : xD} (h : Inv m) : Inv (tCom m).2 := by
  have hc := sCom_rng (m := m)
  unfold tCom
  by_cases c1 : sCom m = -1
  · rw [if_pos c1]; exact h
  · rw [if_neg c1]
    have hd : (sCom m).toNat < 4 := by omega
    have a1 := sCom_at c1
    have a2 := iO h hd a1
    have a3 := iRn h hd
    by_cases c2 : m 301 (sCom m).toNat < m 292 13
    · rw [if_pos c2]
      refine Inv.done (m := xupd (xupd m 300 (sCom m).toNat 0) 292 6 (xadd (m 292 6) 1)) (h.gone (d := (sCom m).toNat)) (fun d hd2 hk => ?_)
      have hk1 : 0 < xupd m 300 (sCom m).toNat 0 300 d := hk.1
      rw [xupd_c] at hk1
      split at hk1
      · exact absurd hk1 (by decide)
      · rename_i ne
        exact absurd (iC h hd2 hd ⟨hk1, hk.2⟩ a1) ne
    · rw [if_neg c2]
      have un : ∀ d, d < 4 → (0 < m 300 d ∧ m 302 d = 2) → d = (sCom m).toNat := fun d hd2 hk => iC h hd2 hd hk a1
      by_cases c3 : m 292 13 ≤ 0
      · rw [if_pos c3]
        exact h.done (fun d hd2 hk => by rw [un d hd2 hk]; omega)
      · rw [if_neg c3]
        refine Inv.done (h.app hd a1.1 (r := (m 292 13 - 1).toNat) (by omega)) (fun d hd2 hk => ?_)
        have k0 := tApp_kp (m := m) (d := (sCom m).toNat) (r := (m 292 13 - 1).toNat)
        rw [k0 300 d (by decide), k0 302 d (by decide)] at hk
        rw [k0 301 d (by decide), un d hd2 hk]
        omega
theorem tEnd_kp {m : xD} {K : Nat} : Kp m (tEnd m K) := fun a k h => (if_neg (by omega)).trans (if_neg (by omega))
theorem Inv.rep {m : xD} (h : Inv m) : Inv (tRep m).2 := by
  unfold tRep
  by_cases c1 : m 292 14 = 0
  · rw [if_pos c1]; exact h
  · rw [if_neg c1]
    have h0 : Inv (xupd m 292 14 0) := ⟨h.1, h.2.1, h.2.2.1, h.2.2.2.1, h.2.2.2.2.1, h.2.2.2.2.2.1, h.2.2.2.2.2.2.1, h.2.2.2.2.2.2.2.1, .inl rfl, h.2.2.2.2.2.2.2.2.2⟩
    rcases sNx_ok (m := m) (nN m) with ⟨h1, -⟩ | ⟨h1, h2, -, -⟩
    · rw [if_pos h1]
      exact h0.kp tEnd_kp (fun n hn => iJ h hn)
    · rw [if_neg (by omega)]
      have hp := iP h
      have b := iNn h
      exact ⟨h.1, h.2.1, h.2.2.1, h.2.2.2.1, h.2.2.2.2.1, h.2.2.2.2.2.1, h.2.2.2.2.2.2.1, h.2.2.2.2.2.2.2.1, .inr ⟨by show m 292 14 = 1; omega, by show -1 ≤ sNx m (nN m); omega, by show sNx m (nN m) < m 292 0; omega⟩, h.2.2.2.2.2.2.2.2.2⟩
theorem Inv.go {m : xD} (h : Inv m) {k : Int} : Inv (tGo k m).2 := by
  unfold tGo
  split
  · exact h.com
  · exact h.rep
theorem Inv.steps {k : Int} : ∀ (n : Nat) {m : xD}, Inv m → Inv (tSt k n m).2
  | 0, _, h => h
  | n + 1, m, h => by
    unfold tSt
    split
    · exact h
    · exact Inv.steps n h.go
theorem Inv.kil {m : xD} (h : Inv m) : Inv (tKil m) := by
  have e : ∀ j, j < 4 → ¬ 0 < tKil m 300 j := fun j hj => by
    rw [show tKil m 300 j = 0 from if_pos ⟨rfl, hj⟩]
    decide
  refine ⟨h.1, h.2.1, h.2.2.1, fun j hj => ?_, fun j r hj hk => absurd hk (e j hj), fun j r q hj hk => absurd hk (e j hj), fun a b ha hb h1 h2 => absurd h1.1 (e a ha), fun j hj h1 => absurd h1.1 (e j hj), h.2.2.2.2.2.2.2.2⟩
  have := h.2.2.2.1 j hj
  rw [show tKil m 300 j = 0 from if_pos ⟨rfl, hj⟩]
  exact ⟨Int.le_refl 0, by decide, this.2.2⟩
theorem Inv.run0 {m : xD} (h : Inv m) : Inv (xupd m 292 14 0) := ⟨h.1, h.2.1, h.2.2.1, h.2.2.2.1, h.2.2.2.2.1, h.2.2.2.2.2.1, h.2.2.2.2.2.2.1, h.2.2.2.2.2.2.2.1, .inl rfl, h.2.2.2.2.2.2.2.2.2⟩
theorem Inv.cr {m : xD} (h : Inv m) : Inv (tCr m) := by
  unfold tCr
  refine Inv.run0 (Inv.kil ?_)
  split
  · exact h
  · split
    · exact h
    · exact h.steps 9
