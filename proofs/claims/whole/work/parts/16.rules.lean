/-! RULES: how a run of the small machine is shown, step by step -/
theorem xgo_ret {ih : xF} {d mi pc len j : Nat} {i : Instr} {o : xOp} {ls st : List xV} {g : xG} {t : xD} {r : Option xV} (hc : xcode mi pc = some ((i, len, j), o)) (h25 : o.1 = 25) (h : xret mi o.2.1 st = some r) : xgo ih d mi pc ls st g t = some (r, g, t) := by
  unfold xgo
  rw [hc]
  simp only [if_pos h25, h]
theorem xgo_call {ih : xF} {d mi pc len j : Nat} {i : Instr} {o : xOp} {ls as r : List xV} {g g' : xG} {t t' : xD} {v : Option xV} {w : Option xV × xG × xD} (hc : xcode mi pc = some ((i, len, j), o)) (h24 : o.1 = 24) (hm : ¬ (200 ≤ o.2.1 ∧ o.2.1 ≤ 201)) (hn : as.length = xnp o.2.1 + (if o.2.2.2.1 = 1 then 0 else 1)) (h8 : xcats r ≤ 8) (hsp : (xspread as).length ≤ xml o.2.1) (hr : xrecvb o.2.2.2.1.toNat (o.2.2.2.2.headD 99) as g = true) (h1 : ih d o.2.1 0 (xenter as (xml o.2.1)) [] g t = some (v, g', t')) (h2 : ih (d + 1) mi (pc + 3) ls (v.toList ++ r) g' t' = some w) : xgo ih (d + 1) mi pc ls (as.reverse ++ r) g t = some w := by
  have hp : xpop (xnp o.2.1 + (if o.2.2.2.1 = 1 then 0 else 1)) (as.reverse ++ r) = some (as, r) := by
    unfold xpop
    rw [← hn, if_pos (by simp)]
    simp
  unfold xgo
  rw [hc]
  simp only [h24, if_neg hm]
  rw [if_neg (by decide), if_pos trivial]
  unfold xcal
  simp only [hp, if_pos (And.intro h8 (And.intro hsp hr)), h1, h2]
theorem xgo_math {ih : xF} {d mi pc len j : Nat} {i : Instr} {o : xOp} {ls st : List xV} {g : xG} {t : xD} {w : Option xV × xG × xD} (hc : xcode mi pc = some ((i, len, j), o)) (h24 : o.1 = 24) (hm : 200 ≤ o.2.1 ∧ o.2.1 ≤ 201) (h : xmath ih d mi pc o ls st g t = some w) : xgo ih d mi pc ls st g t = some w := by
  unfold xgo
  rw [hc]
  simp only [h24, if_pos hm]
  rw [if_neg (by decide), if_pos trivial]
  exact h
theorem xgo_step {ih : xF} {d mi pc len j : Nat} {i : Instr} {o : xOp} {ls st : List xV} {g : xG} {t : xD} {z : xSt} {w : Option xV × xG × xD} (hc : xcode mi pc = some ((i, len, j), o)) (n25 : ¬ o.1 = 25) (n24 : ¬ o.1 = 24) (hs : xstep d mi len o pc ls st g t = some z) (h : ih d mi z.1 z.2.1 z.2.2.1 z.2.2.2.1 z.2.2.2.2 = some w) : xgo ih d mi pc ls st g t = some w := by
  unfold xgo
  rw [hc]
  simp only [if_neg n25, if_neg n24, hs, h]
theorem xmath_min {ih : xF} {d mi pc : Nat} {o : xOp} {ls r : List xV} {x y : Int} {g : xG} {t : xD} {w : Option xV × xG × xD} (ho : o.2.1 = 201) (h8 : xcats r ≤ 8) (h : ih (d + 1) mi (pc + 3) ls ((0, if y < x then y else x) :: r) g t = some w) : xmath ih (d + 1) mi pc o ls ((0, y) :: (0, x) :: r) g t = some w := by
  unfold xmath
  simp only [if_pos ho, if_pos h8, h]
theorem xmath_abs {ih : xF} {d mi pc : Nat} {o : xOp} {ls r : List xV} {x : Int} {g : xG} {t : xD} {w : Option xV × xG × xD} (ho : ¬ o.2.1 = 201) (h8 : xcats r ≤ 8) (h : ih (d + 1) mi (pc + 3) ls ((1, if 0 < x then x else xlneg x) :: r) g t = some w) : xmath ih (d + 1) mi pc o ls ((1, x) :: r) g t = some w := by
  unfold xmath
  simp only [if_neg ho, if_pos h8, h]
theorem xrun_up : ∀ (n d mi pc : Nat) (ls st : List xV) (g : xG) (t : xD) (w : Option xV × xG × xD), xrun n d mi pc ls st g t = some w → ∀ k, xrun (n + k) d mi pc ls st g t = some w
  | 0, _, _, _, _, _, _, _, _, h => by cases h
  | n + 1, d, mi, pc, ls, st, g, t, w, h => fun k => by
    have up := fun d mi pc ls st g t w h => xrun_up n d mi pc ls st g t w h k
    rw [show n + 1 + k = (n + k) + 1 by omega, xrun_succ]
    rw [xrun_succ] at h
    obtain ⟨i, len, j, o, hc, hh⟩ := xgo_inv h
    rcases hh with ⟨h25, r, hret, rfl⟩ | ⟨h24, hm, hmath⟩ | ⟨h24, hm, hcal⟩ | ⟨n25, n24, z, hs, hi⟩
    · exact xgo_ret hc h25 hret
    · refine xgo_math hc h24 hm ?_
      obtain ⟨d', rfl, hx⟩ := xmath_inv hmath
      rcases hx with ⟨ho, y, x, r, rfl, h8, hi⟩ | ⟨ho, x, r, rfl, h8, hi⟩
      · exact xmath_min ho h8 (up _ _ _ _ _ _ _ _ hi)
      · exact xmath_abs ho h8 (up _ _ _ _ _ _ _ _ hi)
    · obtain ⟨d', as, r, v, g1, t1, rfl, rfl, hlen, h8, hsp, hrec, h1, h2⟩ := xcal_inv hcal
      exact xgo_call hc h24 hm hlen h8 hsp hrec (up _ _ _ _ _ _ _ _ h1) (up _ _ _ _ _ _ _ _ h2)
    · exact xgo_step hc n25 n24 hs (up _ _ _ _ _ _ _ _ hi)
/-- from this state a run comes to an end, and Q holds of it -/
def xOk (d mi pc : Nat) (ls st : List xV) (g : xG) (t : xD) (Q : Option xV → xG → xD → Prop) : Prop := ∃ (n : Nat) (r : Option xV) (g' : xG) (t' : xD), xrun n d mi pc ls st g t = some (r, g', t') ∧ Q r g' t'
theorem xOk.to {d mi pc : Nat} {ls st : List xV} {g : xG} {t : xD} {Q Q' : Option xV → xG → xD → Prop} (h : xOk d mi pc ls st g t Q) (hq : ∀ r g' t', Q r g' t' → Q' r g' t') : xOk d mi pc ls st g t Q' := by
  obtain ⟨n, r, g', t', h1, h2⟩ := h
  exact ⟨n, r, g', t', h1, hq _ _ _ h2⟩
/-- a call of method mi with these values -/
def xCall (d mi : Nat) (as : List xV) (g : xG) (t : xD) (Q : Option xV → xG → xD → Prop) : Prop := xOk d mi 0 (xenter as (xml mi)) [] g t Q
section XK
variable {d mi pc len j : Nat} {i : Instr} {ls st r : List xV} {g : xG} {t : xD} {Q : Option xV → xG → xD → Prop}
theorem xk_step {o : xOp} {z : xSt} (hc : xcode mi pc = some ((i, len, j), o)) (n25 : ¬ o.1 = 25) (n24 : ¬ o.1 = 24) (hs : xstep d mi len o pc ls st g t = some z) (h : xOk d mi z.1 z.2.1 z.2.2.1 z.2.2.2.1 z.2.2.2.2 Q) : xOk d mi pc ls st g t Q := by
  obtain ⟨n, rr, g', t', h1, h2⟩ := h
  exact ⟨n + 1, rr, g', t', by rw [xrun_succ]; exact xgo_step hc n25 n24 hs h1, h2⟩
theorem xk_push {tg : Nat} {c : Int} (hc : xcode mi pc = some ((i, len, j), (0, tg, 0, c, []))) {p : Nat} (hp : pc + len = p) (h : xOk d mi p ls ((tg, c) :: st) g t Q) : xOk d mi pc ls st g t Q := by
  subst hp
  exact xk_step hc (fun e => (by cases e)) (fun e => (by cases e)) rfl h
theorem xk_load {k tg : Nat} {x : Int} (hc : xcode mi pc = some ((i, len, j), (1, k, tg, 0, []))) {p : Nat} (hp : pc + len = p) (hl : ls[k]? = some (tg, x)) (h : xOk d mi p ls ((tg, x) :: st) g t Q) : xOk d mi pc ls st g t Q := by
  subst hp
  refine xk_step hc (fun e => (by cases e)) (fun e => (by cases e)) (z := (pc + len, ls, (tg, x) :: st, g, t)) ?_ h
  show xs1 k tg (pc + len) ls st g t = _
  unfold xs1
  rw [hl]
  exact if_pos rfl
theorem xk_store {k tg : Nat} {x : Int} {ls' : List xV} (hc : xcode mi pc = some ((i, len, j), (2, k, tg, 0, []))) {p : Nat} (hp : pc + len = p) (h1 : tg ≠ 1) (hk : k < ls.length) (hl : xset ls k (tg, x) = ls') (h : xOk d mi p ls' st g t Q) : xOk d mi pc ls ((tg, x) :: st) g t Q := by
  subst hp
  refine xk_step hc (fun e => (by cases e)) (fun e => (by cases e)) (z := (pc + len, ls', st, g, t)) ?_ h
  show xs2 k tg (pc + len) ls ((tg, x) :: st) g t = _
  unfold xs2 xcat
  simp only
  rw [if_neg h1, if_pos ⟨trivial, hk⟩, if_neg h1, hl]
theorem xk_storel {k : Nat} {x : Int} {ls' : List xV} (hc : xcode mi pc = some ((i, len, j), (2, k, 1, 0, []))) {p : Nat} (hp : pc + len = p) (hk : k + 1 < ls.length) (hl : xset (xset ls (k + 1) (3, 0)) k (1, x) = ls') (h : xOk d mi p ls' st g t Q) : xOk d mi pc ls ((1, x) :: st) g t Q := by
  subst hp
  refine xk_step hc (fun e => (by cases e)) (fun e => (by cases e)) (z := (pc + len, ls', st, g, t)) ?_ h
  show (if (1 : Nat) = 1 ∧ k + 2 ≤ ls.length then some (pc + len, (if (1 : Nat) = 1 then xset (xset ls (k + 1) (3, 0)) k (1, x) else xset ls k (1, x)), st, g, t) else none) = _
  rw [if_pos ⟨rfl, hk⟩, if_pos rfl, hl]
theorem xk_iinc {k : Nat} {x n : Int} {ls' : List xV} (hc : xcode mi pc = some ((i, len, j), (3, k, 0, n, []))) {p : Nat} (hp : pc + len = p) (hl : ls[k]? = some (0, x)) (hl2 : xset ls k (0, xadd x n) = ls') (h : xOk d mi p ls' st g t Q) : xOk d mi pc ls st g t Q := by
  subst hp
  refine xk_step hc (fun e => (by cases e)) (fun e => (by cases e)) (z := (pc + len, ls', st, g, t)) ?_ h
  show xs3 k n (pc + len) ls st g t = _
  unfold xs3
  rw [hl, ← hl2]
  exact if_pos rfl
theorem xk_bin {k : Nat} {x y z : Int} (hc : xcode mi pc = some ((i, len, j), (4, k, 0, 0, []))) {p : Nat} (hp : pc + len = p) (hz : xbin k x y = some z) (h : xOk d mi p ls ((0, z) :: st) g t Q) : xOk d mi pc ls ((0, y) :: (0, x) :: st) g t Q := by
  subst hp
  refine xk_step hc (fun e => (by cases e)) (fun e => (by cases e)) (z := (pc + len, ls, (0, z) :: st, g, t)) ?_ h
  show xs4 k (pc + len) ls ((0, y) :: (0, x) :: st) g t = _
  unfold xs4
  simp only [hz]
theorem xk_un {k : Nat} {v w : xV} (hc : xcode mi pc = some ((i, len, j), (5, k, 0, 0, []))) {p : Nat} (hp : pc + len = p) (hz : xun k v = some w) (h : xOk d mi p ls (w :: st) g t Q) : xOk d mi pc ls (v :: st) g t Q := by
  subst hp
  refine xk_step hc (fun e => (by cases e)) (fun e => (by cases e)) (z := (pc + len, ls, w :: st, g, t)) ?_ h
  show xs5 k (pc + len) ls (v :: st) g t = _
  unfold xs5
  simp only [hz]
theorem xk_lbin {k b : Nat} {x y : Int} {w : xV} (hc : xcode mi pc = some ((i, len, j), (6, k, 0, 0, []))) {p : Nat} (hp : pc + len = p) (hb : b = (if k = 6 ∨ k = 7 then 0 else 1)) (hz : xlbin k x y = some w) (h : xOk d mi p ls (w :: st) g t Q) : xOk d mi pc ls ((b, y) :: (1, x) :: st) g t Q := by
  subst hp
  refine xk_step hc (fun e => (by cases e)) (fun e => (by cases e)) (z := (pc + len, ls, w :: st, g, t)) ?_ h
  show xs6 k (pc + len) ls ((b, y) :: (1, x) :: st) g t = _
  unfold xs6
  simp only [if_pos hb, hz]
theorem xk_if {k tgt : Nat} {x : Int} (hc : xcode mi pc = some ((i, len, j), (7, k, tgt, 0, []))) {p : Nat} (hp : pc + len = p) (h1 : xcond k x 0 → xOk d mi tgt ls st g t Q) (h2 : ¬ xcond k x 0 → xOk d mi p ls st g t Q) : xOk d mi pc ls ((0, x) :: st) g t Q := by
  subst hp
  have e := xcondb_iff k x 0
  by_cases c : xcond k x 0
  · exact xk_step hc (fun e => (by cases e)) (fun e => (by cases e)) (z := (tgt, ls, st, g, t)) (by show some (if _ then _ else _, _) = _; rw [if_pos (e.mpr c)]) (h1 c)
  · exact xk_step hc (fun e => (by cases e)) (fun e => (by cases e)) (z := (pc + len, ls, st, g, t)) (by show some (if _ then _ else _, _) = _; rw [if_neg (fun w => c (e.mp w))]) (h2 c)
theorem xk_icmp {k tgt : Nat} {x y : Int} (hc : xcode mi pc = some ((i, len, j), (8, k, tgt, 0, []))) {p : Nat} (hp : pc + len = p) (h1 : xcond k x y → xOk d mi tgt ls st g t Q) (h2 : ¬ xcond k x y → xOk d mi p ls st g t Q) : xOk d mi pc ls ((0, y) :: (0, x) :: st) g t Q := by
  subst hp
  have e := xcondb_iff k x y
  by_cases c : xcond k x y
  · exact xk_step hc (fun e => (by cases e)) (fun e => (by cases e)) (z := (tgt, ls, st, g, t)) (by show some (if _ then _ else _, _) = _; rw [if_pos (e.mpr c)]) (h1 c)
  · exact xk_step hc (fun e => (by cases e)) (fun e => (by cases e)) (z := (pc + len, ls, st, g, t)) (by show some (if _ then _ else _, _) = _; rw [if_neg (fun w => c (e.mp w))]) (h2 c)
theorem xk_goto {tgt : Nat} (hc : xcode mi pc = some ((i, len, j), (9, tgt, 0, 0, []))) (h : xOk d mi tgt ls st g t Q) : xOk d mi pc ls st g t Q := xk_step hc (fun e => (by cases e)) (fun e => (by cases e)) rfl h
theorem xk_switch {dflt w : Nat} {lo x : Int} {ts : List Nat} (hc : xcode mi pc = some ((i, len, j), (10, dflt, 0, lo, ts))) (hw : (if x < lo ∨ lo + (ts.length : Int) ≤ x then some dflt else ts[(x - lo).toNat]?) = some w) (h : xOk d mi w ls st g t Q) : xOk d mi pc ls ((0, x) :: st) g t Q := by
  refine xk_step hc (fun e => (by cases e)) (fun e => (by cases e)) (z := (w, ls, st, g, t)) ?_ h
  show xs10 dflt lo ts ls ((0, x) :: st) g t = _
  unfold xs10
  simp only
  by_cases c : x < lo ∨ lo + (ts.length : Int) ≤ x
  · rw [if_pos c] at hw ⊢
    cases hw
    rfl
  · rw [if_neg c] at hw ⊢
    rw [hw]
theorem xk_dup {v : xV} (hc : xcode mi pc = some ((i, len, j), (11, 0, 0, 0, []))) {p : Nat} (hp : pc + len = p) (hv : ¬ v.1 = 1) (h : xOk d mi p ls (v :: v :: st) g t Q) : xOk d mi pc ls (v :: st) g t Q := by
  subst hp
  exact xk_step hc (fun e => (by cases e)) (fun e => (by cases e)) (if_neg hv) h
theorem xk_pop {v : xV} (hc : xcode mi pc = some ((i, len, j), (12, 0, 0, 0, []))) {p : Nat} (hp : pc + len = p) (hv : ¬ v.1 = 1) (h : xOk d mi p ls st g t Q) : xOk d mi pc ls (v :: st) g t Q := by
  subst hp
  exact xk_step hc (fun e => (by cases e)) (fun e => (by cases e)) (if_neg hv) h
theorem xk_dupx1 {v w : xV} (hc : xcode mi pc = some ((i, len, j), (13, 0, 0, 0, []))) {p : Nat} (hp : pc + len = p) (hv : ¬ (v.1 = 1 ∨ w.1 = 1)) (h : xOk d mi p ls (v :: w :: v :: st) g t Q) : xOk d mi pc ls (v :: w :: st) g t Q := by
  subst hp
  exact xk_step hc (fun e => (by cases e)) (fun e => (by cases e)) (if_neg hv) h
theorem xk_dup2 {v w : xV} (hc : xcode mi pc = some ((i, len, j), (14, 0, 0, 0, []))) {p : Nat} (hp : pc + len = p) (hv : ¬ (v.1 = 1 ∨ w.1 = 1)) (h : xOk d mi p ls (v :: w :: v :: w :: st) g t Q) : xOk d mi pc ls (v :: w :: st) g t Q := by
  subst hp
  exact xk_step hc (fun e => (by cases e)) (fun e => (by cases e)) (if_neg hv) h
theorem xk_getf {ci k a : Nat} {v : xV} (hc : xcode mi pc = some ((i, len, j), (15, ci, k, 0, []))) {p : Nat} (hp : pc + len = p) (ho : xobj g a ci k) (hv : xslot g t a ci k = v) (h : xOk d mi p ls (v :: st) g t Q) : xOk d mi pc ls ((2, ((a : Nat) : Int)) :: st) g t Q := by
  subst hp
  subst hv
  exact xk_step hc (fun e => (by cases e)) (fun e => (by cases e)) (if_pos ho) h
theorem xk_putf {ci k a : Nat} {tg : Nat} {x : Int} (hc : xcode mi pc = some ((i, len, j), (16, ci, k, 0, []))) {p : Nat} (hp : pc + len = p) (ho : xobj g a ci k) (ht : xft ci k = tg) (h2 : tg ≠ 2) (hf : xfk ci k < 10) (hz : xfk ci k % 10 = 4 → x = 0 ∨ x = 1) (ha : 2 ≤ a) (h : xOk d mi p ls st g (xupd t a k x) Q) : xOk d mi pc ls ((tg, x) :: (2, ((a : Nat) : Int)) :: st) g t Q := by
  subst hp
  refine xk_step hc (fun e => (by cases e)) (fun e => (by cases e)) (z := (pc + len, ls, st, g, xupd t a k x)) ?_ h
  show xs16 mi ci k (pc + len) ls ((tg, x) :: (2, Int.ofNat a) :: st) g t = _
  unfold xs16 xput
  simp only
  rw [if_pos ⟨ho, ht.symm, .inl hf, hz, ha⟩, ht, if_neg h2]
theorem xk_ald {kd a n : Nat} {v : xV} (hc : xcode mi pc = some ((i, len, j), (17, kd, 0, 0, []))) {p : Nat} (hp : pc + len = p) (hv : xald kd a ((n : Nat) : Int) g t = some v) (h : xOk d mi p ls (v :: st) g t Q) : xOk d mi pc ls ((0, ((n : Nat) : Int)) :: (2, ((a : Nat) : Int)) :: st) g t Q := by
  subst hp
  refine xk_step hc (fun e => (by cases e)) (fun e => (by cases e)) (z := (pc + len, ls, v :: st, g, t)) ?_ h
  show xs17 kd (pc + len) ls ((0, ((n : Nat) : Int)) :: (2, Int.ofNat a) :: st) g t = _
  unfold xs17
  simp only [hv]
theorem xk_ast {kd a n : Nat} {tg : Nat} {x : Int} (hc : xcode mi pc = some ((i, len, j), (18, kd, 0, 0, []))) {p : Nat} (hp : pc + len = p) (hk : kd = 20 ∨ kd = 21) (htg : tg = (if kd = 21 then 1 else 0)) (hs : (g.2.1 a).1 = kd) (hn : n < (g.2.1 a).2) (ha : 2 ≤ a) (h : xOk d mi p ls st g (xupd t a n x) Q) : xOk d mi pc ls ((tg, x) :: (0, ((n : Nat) : Int)) :: (2, ((a : Nat) : Int)) :: st) g t Q := by
  subst hp
  refine xk_step hc (fun e => (by cases e)) (fun e => (by cases e)) (z := (pc + len, ls, st, g, xupd t a n x)) ?_ h
  show xs18 kd (pc + len) ls ((tg, x) :: (0, ((n : Nat) : Int)) :: (2, Int.ofNat a) :: st) g t = _
  unfold xs18 xast
  simp only [Int.toNat_natCast]
  rw [if_pos ⟨Int.natCast_nonneg n, hn, ha⟩, if_neg (by omega), if_pos ⟨hs, htg⟩, if_neg (by omega)]
theorem xk_astb {a n : Nat} {x : Int} (hc : xcode mi pc = some ((i, len, j), (18, 22, 0, 0, []))) {p : Nat} (hp : pc + len = p) (hs : (g.2.1 a).1 = 22) (hn : n < (g.2.1 a).2) (ha : 2 ≤ a) (h : xOk d mi p ls st g (xupd t a n (xi2b x)) Q) : xOk d mi pc ls ((0, x) :: (0, ((n : Nat) : Int)) :: (2, ((a : Nat) : Int)) :: st) g t Q := by
  subst hp
  refine xk_step hc (fun e => (by cases e)) (fun e => (by cases e)) (z := (pc + len, ls, st, g, xupd t a n (xi2b x))) ?_ h
  show xs18 22 (pc + len) ls ((0, x) :: (0, ((n : Nat) : Int)) :: (2, Int.ofNat a) :: st) g t = _
  unfold xs18 xast
  simp only [Int.toNat_natCast]
  rw [if_pos ⟨Int.natCast_nonneg n, hn, ha⟩, if_neg (by decide), if_pos ⟨hs, rfl⟩]
  rfl
theorem xk_alen (hc : xcode mi pc = some ((i, len, j), (19, 0, 0, 0, []))) {p : Nat} (hp : pc + len = p) (h : xOk d mi p ls ((0, (((g.2.1 0).2 : Nat) : Int)) :: st) g t Q) : xOk d mi pc ls ((2, ((0 : Nat) : Int)) :: st) g t Q := by
  subst hp
  exact xk_step hc (fun e => (by cases e)) (fun e => (by cases e)) rfl h
theorem xk_copy {a b n dp sp kd : Nat} (hc : xcode mi pc = some ((i, len, j), (26, 0, 0, 0, []))) {p : Nat} (hp : pc + len = p) (hd : 0 < d) (h8 : xcats st ≤ 8) (ha : 2 ≤ a) (hb : 2 ≤ b) (hk : kd = 20 ∨ kd = 21) (h1 : (g.2.1 a).1 = kd) (h2 : (g.2.1 b).1 = kd) (h3 : sp + n ≤ (g.2.1 b).2) (h4 : dp + n ≤ (g.2.1 a).2) (h5 : 0 < (g.2.1 a).2) (h6 : 0 < (g.2.1 b).2) (h : xOk d mi p ls st g (xcpy t b sp a dp n) Q) : xOk d mi pc ls ((0, ((n : Nat) : Int)) :: (0, ((dp : Nat) : Int)) :: (2, ((a : Nat) : Int)) :: (0, ((sp : Nat) : Int)) :: (2, ((b : Nat) : Int)) :: st) g t Q := by
  subst hp
  refine xk_step hc (fun e => (by cases e)) (fun e => (by cases e)) (z := (pc + len, ls, st, g, xcpy t b sp a dp n)) ?_ h
  show xs26 d (pc + len) ls ((0, ((n : Nat) : Int)) :: (0, ((dp : Nat) : Int)) :: (2, Int.ofNat a) :: (0, ((sp : Nat) : Int)) :: (2, Int.ofNat b) :: st) g t = _
  unfold xs26
  simp only [Int.toNat_natCast]
  rw [if_pos ⟨hd, h8, ha, hb, Int.natCast_nonneg n, Int.natCast_nonneg dp, Int.natCast_nonneg sp, by rw [h1]; exact hk, by rw [h1, h2], h3, h4, h5, h6⟩]
theorem xk_gets (hc : xcode mi pc = some ((i, len, j), (28, 0, 0, 0, []))) {p : Nat} (hp : pc + len = p) (h : xOk d mi p ls ((2, ((1 : Nat) : Int)) :: st) g t Q) : xOk d mi pc ls st g t Q := by
  subst hp
  exact xk_step hc (fun e => (by cases e)) (fun e => (by cases e)) rfl h
theorem xk_ret {a : Nat} {v : Option xV} (hc : xcode mi pc = some ((i, len, j), (25, a, 0, 0, []))) (hr : xret mi a st = some v) (h : Q v g t) : xOk d mi pc ls st g t Q := ⟨1, v, g, t, by rw [xrun_succ]; exact xgo_ret hc rfl hr, h⟩
theorem xk_call {cm na ci : Nat} {kd : Int} {as : List xV} {P : Option xV → xG → xD → Prop} (hc : xcode mi pc = some ((i, len, j), (24, cm, na, kd, [ci]))) {p : Nat} (hp : pc + 3 = p) (hm : ¬ (200 ≤ cm ∧ cm ≤ 201)) (hn : as.length = xnp cm + (if kd = 1 then 0 else 1)) (h8 : xcats r ≤ 8) (hsp : (xspread as).length ≤ xml cm) (hr : xrecvb kd.toNat ci as g = true) (hst : as.reverse ++ r = st) (hcall : xCall d cm as g t P) (h : ∀ v g' t', P v g' t' → xOk (d + 1) mi p ls (v.toList ++ r) g' t' Q) : xOk (d + 1) mi pc ls st g t Q := by
  subst hp
  subst hst
  obtain ⟨n1, v, g1, t1, h1, hp⟩ := hcall
  obtain ⟨n2, w, g2, t2, h2, hq⟩ := h v g1 t1 hp
  refine ⟨n1 + n2 + 1, w, g2, t2, ?_, hq⟩
  rw [xrun_succ]
  have u1 := xrun_up _ _ _ _ _ _ _ _ _ h1 n2
  have u2 := xrun_up _ _ _ _ _ _ _ _ _ h2 n1
  rw [Nat.add_comm n2 n1] at u2
  exact xgo_call (o := (24, cm, na, kd, [ci])) hc rfl hm hn h8 hsp hr u1 u2
theorem xk_min {na ci : Nat} {kd x y : Int} (hc : xcode mi pc = some ((i, len, j), (24, 201, na, kd, [ci]))) {p : Nat} (hp : pc + 3 = p) (h8 : xcats st ≤ 8) (h : xOk (d + 1) mi p ls ((0, if y < x then y else x) :: st) g t Q) : xOk (d + 1) mi pc ls ((0, y) :: (0, x) :: st) g t Q := by
  subst hp
  obtain ⟨n, w, g2, t2, h2, hq⟩ := h
  exact ⟨n + 1, w, g2, t2, by rw [xrun_succ]; exact xgo_math (o := (24, 201, na, kd, [ci])) hc rfl ⟨(by decide : 200 ≤ 201), (by decide : 201 ≤ 201)⟩ (xmath_min (o := (24, 201, na, kd, [ci])) rfl h8 h2), hq⟩
theorem xk_abs {na ci : Nat} {kd x : Int} (hc : xcode mi pc = some ((i, len, j), (24, 200, na, kd, [ci]))) {p : Nat} (hp : pc + 3 = p) (h8 : xcats st ≤ 8) (h : xOk (d + 1) mi p ls ((1, if 0 < x then x else xlneg x) :: st) g t Q) : xOk (d + 1) mi pc ls ((1, x) :: st) g t Q := by
  subst hp
  obtain ⟨n, w, g2, t2, h2, hq⟩ := h
  exact ⟨n + 1, w, g2, t2, by rw [xrun_succ]; exact xgo_math (o := (24, 200, na, kd, [ci])) hc rfl ⟨(by decide : 200 ≤ 200), (by decide : 200 ≤ 201)⟩ (xmath_abs (o := (24, 200, na, kd, [ci])) (by decide : ¬ 200 = 201) h8 h2), hq⟩
end XK
