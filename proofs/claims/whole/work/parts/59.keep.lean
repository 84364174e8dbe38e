/-! WHAT THE CALLS KEEP -/
/-- the cells of an image -/
def im (a k : Nat) : Prop := (a = 292 ∧ (k = 0 ∨ k = 6 ∨ k = 13 ∨ k = 14 ∨ k = 15 ∨ k = 19 ∨ k = 22 ∨ k = 25)) ∨ (((294 ≤ a ∧ a ≤ 298) ∨ a = 304) ∧ k < 12) ∨ (a = 293 ∧ k < 96) ∨ (a = 299 ∧ k < 216) ∨ (300 ≤ a ∧ a ≤ 302 ∧ k < 4) ∨ (a = 303 ∧ k < 48) ∨ ((a = 306 ∨ a = 307) ∧ k < 5) ∨ ((a = 308 ∨ a = 309) ∧ k < 10)
def imb (a k : Nat) : Bool := decide ((a = 292 ∧ (k = 0 ∨ k = 6 ∨ k = 13 ∨ k = 14 ∨ k = 15 ∨ k = 19 ∨ k = 22 ∨ k = 25)) ∨ (((294 ≤ a ∧ a ≤ 298) ∨ a = 304) ∧ k < 12) ∨ (a = 293 ∧ k < 96) ∨ (a = 299 ∧ k < 216) ∨ (300 ≤ a ∧ a ≤ 302 ∧ k < 4) ∨ (a = 303 ∧ k < 48) ∨ ((a = 306 ∨ a = 307) ∧ k < 5) ∨ ((a = 308 ∨ a = 309) ∧ k < 10))
theorem imb_iff {a k : Nat} : imb a k = true ↔ im a k := decide_eq_true_iff
theorem im_all1 : (List.range 482).all (fun j => imb (pa j) (pk j)) = true := by decide +kernel
theorem im_all2 : (List.range 20).all (fun b => (List.range 216).all (fun k => !imb (292 + b) k || pOb (292 + b) k)) = true := by decide +kernel
theorem pOb_im {a k : Nat} : pOb a k = true ↔ im a k := by
  constructor
  · intro h
    have q := pOb_iff.mp h
    have := imb_iff.mp (xball im_all1 q.1)
    rw [q.2.1, q.2.2] at this
    exact this
  · intro h
    have hh := h
    unfold im at hh
    have a1 := xball2 im_all2 (show a - 292 < 20 by omega) (show k < 216 by omega)
    rw [show 292 + (a - 292) = a by omega, imb_iff.mpr h] at a1
    exact a1
/-- what a call of a store may change -/
def Cg (a k : Nat) : Prop := im a k ∨ ((a = 310 ∨ a = 311) ∧ k < 8) ∨ a = 314 ∨ a = 315 ∨ (a = 292 ∧ 33 ≤ k)
def Sk (m w : xD) : Prop := ∀ a k, ¬ Cg a k → w a k = m a k
/-- and any call but the one for an image -/
def Ik (m w : xD) : Prop := ∀ a k, ¬ (Cg a k ∨ a = 305 ∨ (a = 292 ∧ k = 17) ∨ a = 316 ∨ a = 317 ∨ a = 318) → w a k = m a k
theorem Sk.rf {m : xD} : Sk m m := fun _ _ _ => rfl
theorem Sk.tr {m u v : xD} (h1 : Sk m u) (h2 : Sk u v) : Sk m v := fun a k h => (h2 a k h).trans (h1 a k h)
theorem Sk.ik {m w : xD} (h : Sk m w) : Ik m w := fun a k hh => h a k (fun c => hh (Or.inl c))
theorem Sk.sy {m w : xD} (h : Sy m w) : Sk m w := fun a k hh => h a k (fun c => hh (by unfold Cg; omega))
theorem Sk.ag {m : xD} {A : Nat} : Sk m (tAg m A wAl) := fun a k hh => if_neg (fun c => hh (Or.inl (pOb_im.mp c.1)))
theorem Sk.ke {m : xD} : Sk m (tKe m 314 wAl) := fun a k hh => if_neg (fun c => hh (by unfold Cg; omega))
theorem Sk.ud {m : xD} : Sk m (tUd m) := fun a k hh => by
  have h2 : ¬ (a = 310 ∧ k < 8) := fun c => hh (by unfold Cg; omega)
  have h3 : ¬ (a = 311 ∧ k < 8) := fun c => hh (by unfold Cg; omega)
  exact ((if_neg h2).trans (if_neg h3)).trans (Sk.ag a k hh)
theorem blt_d {x y : Nat} : Nat.blt x y = decide (x < y) := by rw [Bool.eq_iff_iff, decide_eq_true_iff, Nat.blt_eq]
theorem beq_d {x y : Nat} : Nat.beq x y = decide (x = y) := by rw [Bool.eq_iff_iff, decide_eq_true_iff, Nat.beq_eq]
theorem vis_r {a k : Nat} (h : vis a k = true) : (a = 292 ∧ (k = 0 ∨ k = 6 ∨ k = 13 ∨ k = 14 ∨ k = 15 ∨ k = 19 ∨ k = 22 ∨ k = 25)) ∨ (293 ≤ a ∧ a ≤ 304) ∨ (306 ≤ a ∧ a < 312) := by
  unfold vis at h
  simp only [blt_d, beq_d, Bool.cond_decide] at h
  by_cases c1 : a < 293
  · rw [if_pos c1] at h
    by_cases c2 : a = 292
    · rw [if_pos c2] at h
      simp only [Bool.or_eq_true, decide_eq_true_eq] at h
      omega
    · rw [if_neg c2] at h
      cases h
  · rw [if_neg c1] at h
    by_cases c3 : a < 305
    · omega
    · rw [if_neg c3] at h
      by_cases c4 : a < 306
      · rw [if_pos c4] at h
        cases h
      · rw [if_neg c4, decide_eq_true_iff] at h
        omega
theorem Cg_im {a k : Nat} (h : im a k) : Cg a k := Or.inl h
theorem Cg_n {a k : Nat} (h : (294 ≤ a ∧ a ≤ 298) ∨ a = 304) (hk : k < 12) : Cg a k := Or.inl (Or.inr (Or.inl ⟨h, hk⟩))
theorem Cg_d {a k : Nat} (h : 300 ≤ a ∧ a ≤ 302) (hk : k < 4) : Cg a k := Or.inl (Or.inr (Or.inr (Or.inr (Or.inr (Or.inl ⟨h.1, h.2, hk⟩)))))
theorem Cg_r {k : Nat} (hk : k < 48) : Cg 303 k := Or.inl (Or.inr (Or.inr (Or.inr (Or.inr (Or.inr (Or.inl ⟨rfl, hk⟩))))))
theorem Cg_s {a k : Nat} (h : a = 306 ∨ a = 307) (hk : k < 5) : Cg a k := Or.inl (Or.inr (Or.inr (Or.inr (Or.inr (Or.inr (Or.inr (Or.inl ⟨h, hk⟩)))))))
theorem Cg_l {a k : Nat} (h : a = 308 ∨ a = 309) (hk : k < 10) : Cg a k := Or.inl (Or.inr (Or.inr (Or.inr (Or.inr (Or.inr (Or.inr (Or.inr ⟨h, hk⟩)))))))
theorem Cg_b {a k : Nat} (h : a = 310 ∨ a = 311) (hk : k < 8) : Cg a k := Or.inr (Or.inl ⟨h, hk⟩)
theorem Cg_0 {k : Nat} (h : k = 0 ∨ k = 6 ∨ k = 13 ∨ k = 14 ∨ k = 15 ∨ k = 19 ∨ k = 22 ∨ k = 25) : Cg 292 k := Or.inl (Or.inl ⟨rfl, h⟩)
theorem Cg_j {k : Nat} (hk : k < 216) : Cg 299 k := Or.inl (Or.inr (Or.inr (Or.inr (Or.inl ⟨rfl, hk⟩))))
theorem Sk.un {m w : xD} (h : Un m w) : Sk m w := fun a k hh => h a k (fun c => hh (by
  rcases c with ⟨rfl, c⟩ | ⟨c, ck⟩ | ⟨rfl, ck⟩ | ⟨rfl, ck⟩
  · exact Cg_0 (by omega)
  · exact Cg_n (by omega) ck
  · exact Cg_j ck
  · exact Cg_d (by omega) ck))
theorem Sk.up {m w : xD} (h : Sk m w) {a k : Nat} {x : Int} (c : Cg a k) : Sk m (xupd w a k x) := fun b j hh => (xupd_ne (fun e => hh (by rw [e.1, e.2]; exact c))).trans (h b j hh)
theorem vw_ud {m w : xD} (h : Ik m w) : vw (tUd m) = vw (tUd w) := by
  funext a k
  unfold vw
  cases hv : vis a k with
  | false => rfl
  | true =>
    have r := vis_r hv
    show tUd m a k = tUd w a k
    by_cases c1 : a = 310 ∧ k < 8
    · refine (if_pos c1).trans (Eq.trans (h 312 k (by unfold Cg im; omega)).symm (if_pos c1).symm)
    · by_cases c2 : a = 311 ∧ k < 8
      · refine ((if_neg c1).trans (if_pos c2)).trans (Eq.trans (h 312 (8 + k) (by unfold Cg im; omega)).symm ((if_neg c1).trans (if_pos c2)).symm)
      · refine ((if_neg c1).trans (if_neg c2)).trans (Eq.trans ?_ ((if_neg c1).trans (if_neg c2)).symm)
        by_cases c3 : pOb a k = true ∧ wAl (pos a k) = true
        · exact (if_pos c3).trans (Eq.trans (h 313 _ (by unfold Cg im; omega)).symm (if_pos c3).symm)
        · have c4 : ¬ im a k := fun hi => c3 ⟨pOb_im.mpr hi, decide_eq_true (pOb_iff.mp (pOb_im.mpr hi)).1⟩
          refine (if_neg c3).trans (Eq.trans (h a k ?_).symm (if_neg c3).symm)
          rintro ((hh | hh | hh | hh | hh) | hh | hh | hh | hh | hh)
          · exact c4 hh
          · omega
          · omega
          · omega
          · omega
          · omega
          · omega
          · omega
          · omega
          · omega
theorem IMG.ik {t u m w : xD} (h : IMG t m) (k : Ik m w) (f6 : u 2 6 = t 2 6) (f1 : Sto 1 t u) : IMG u w := by
  have e : w 292 28 = m 292 28 := k 292 28 (by unfold Cg im; omega)
  refine ⟨(f6.trans h.1).trans e.symm, by rw [e]; exact h.2.1, fun e1 => ?_⟩
  rw [e] at e1
  have q := h.2.2 e1
  exact ⟨(q.1.st q.2 f1).vi (vw_ud k), q.2.vi (vw_ud k)⟩
theorem MX.sk {m w : xD} (h : MX m) (k : Sk m w) : MX w := by
  have e : w 292 17 = m 292 17 := k 292 17 (by unfold Cg im; omega)
  unfold MX
  rw [e]
  refine ⟨h.1, h.2.1, fun i hi => ?_⟩
  rw [k 305 i (by unfold Cg im; omega)]
  exact h.2.2 i hi
theorem TX.sk {t m w : xD} (h : TX t m) (k : Sk m w) : TX t w := by
  have e : w 292 17 = m 292 17 := k 292 17 (by unfold Cg im; omega)
  unfold TX
  rw [e]
  refine ⟨h.1, fun i hi => ?_⟩
  rw [k 305 i (by unfold Cg im; omega)]
  exact h.2 i hi
theorem MT.sk {m w : xD} (h : MT m) (k : Sk m w) : MT w := fun i hi => by
  rw [k 316 i (by unfold Cg im; omega), k 317 i (by unfold Cg im; omega)]
  exact h i hi
theorem TP.sk {t m w : xD} (h : TP t m) (k : Sk m w) : TP t w := fun i hi => by
  rw [k 316 i (by unfold Cg im; omega), k 317 i (by unfold Cg im; omega)]
  refine ⟨(h i hi).1, (h i hi).2.1, fun j hj => ?_⟩
  rw [k 318 _ (by unfold Cg im; omega)]
  exact (h i hi).2.2 j hj
theorem TP.fr {t u m : xD} (h : TP t m) (f : ∀ b j, 280 ≤ b → b < 292 → u b j = t b j) : TP u m := fun i hi => ⟨(f _ _ (by omega) (by omega)).trans (h i hi).1, (f _ _ (by omega) (by omega)).trans (h i hi).2.1, fun j hj => (f _ _ (by omega) (by omega)).trans ((h i hi).2.2 j hj)⟩
theorem Mst.fr {t u : xD} {s : Nat} (h : Mst t s) (f : Sto s t u) : Mst u s := ⟨(f _ _ (by omega) (by omega)).trans h.1, (f _ _ (by omega) (by omega)).trans h.2.1, (f _ _ (by omega) (by omega)).trans h.2.2⟩
-- the calls, one by one
theorem Inv.put {m : xD} (h : Inv m) {d R p1 p2 p3 : Nat} {y z w : Int} (hd : d < 4) (hk : 0 < m 300 d) (h2 : m 302 d = 0) (hR : R = nR m d) (hR4 : R < 4) (e1 : p1 = 12 * d + R) (e2 : p2 = 12 * d + 4 + R) (e3 : p3 = 12 * d + 8 + R) (hy : 0 ≤ y ∧ y < m 292 0) (hno : ∀ i, i < R → ¬ m 303 (12 * d + i) = y) : Inv (xupd (xupd (xupd (xupd m 303 p1 y) 303 p2 z) 303 p3 w) 301 d ((R + 1 : Nat) : Int)) := by
  subst e1 e2 e3
  have i := iD h hd
  have f0 : xupd (xupd (xupd (xupd m 303 (12 * d + R) y) 303 (12 * d + 4 + R) z) 303 (12 * d + 8 + R) w) 301 d ((R + 1 : Nat) : Int) 300 d = m 300 d := (xupd_ne (by omega)).trans ((xupd_ne (by omega)).trans ((xupd_ne (by omega)).trans (xupd_ne (by omega))))
  have f1 : xupd (xupd (xupd (xupd m 303 (12 * d + R) y) 303 (12 * d + 4 + R) z) 303 (12 * d + 8 + R) w) 301 d ((R + 1 : Nat) : Int) 301 d = ((R + 1 : Nat) : Int) := xupd_eq
  have f2 : xupd (xupd (xupd (xupd m 303 (12 * d + R) y) 303 (12 * d + 4 + R) z) 303 (12 * d + 8 + R) w) 301 d ((R + 1 : Nat) : Int) 302 d = m 302 d := (xupd_ne (by omega)).trans ((xupd_ne (by omega)).trans ((xupd_ne (by omega)).trans (xupd_ne (by omega))))
  have f3 : xupd (xupd (xupd (xupd m 303 (12 * d + R) y) 303 (12 * d + 4 + R) z) 303 (12 * d + 8 + R) w) 301 d ((R + 1 : Nat) : Int) 292 13 = m 292 13 := (xupd_ne (by omega)).trans ((xupd_ne (by omega)).trans ((xupd_ne (by omega)).trans (xupd_ne (by omega))))
  have fo : ∀ r, r < R → xupd (xupd (xupd (xupd m 303 (12 * d + R) y) 303 (12 * d + 4 + R) z) 303 (12 * d + 8 + R) w) 301 d ((R + 1 : Nat) : Int) 303 (12 * d + r) = m 303 (12 * d + r) := fun r hr => (xupd_ne (by omega)).trans ((xupd_ne (by omega)).trans ((xupd_ne (by omega)).trans (xupd_ne (by omega))))
  have fR : xupd (xupd (xupd (xupd m 303 (12 * d + R) y) 303 (12 * d + 4 + R) z) 303 (12 * d + 8 + R) w) 301 d ((R + 1 : Nat) : Int) 303 (12 * d + R) = y := (xupd_ne (by omega)).trans ((xupd_ne (by omega)).trans ((xupd_ne (by omega)).trans xupd_eq))
  have fm : ∀ a k, ¬ ((a = 300 ∧ k = d) ∨ (a = 301 ∧ k = d) ∨ (a = 302 ∧ k = d) ∨ (a = 303 ∧ 12 * d ≤ k ∧ k < 12 * d + 12) ∨ (a = 292 ∧ k = 13)) → xupd (xupd (xupd (xupd m 303 (12 * d + R) y) 303 (12 * d + 4 + R) z) 303 (12 * d + 8 + R) w) 301 d ((R + 1 : Nat) : Int) a k = m a k := fun a k hn => (xupd_ne (by omega)).trans ((xupd_ne (by omega)).trans ((xupd_ne (by omega)).trans (xupd_ne (by omega))))
  generalize xupd (xupd (xupd (xupd m 303 (12 * d + R) y) 303 (12 * d + 4 + R) z) 303 (12 * d + 8 + R) w) 301 d ((R + 1 : Nat) : Int) = W at f0 f1 f2 f3 fo fR fm ⊢
  have nr : nR W d = R + 1 := by
    show (W 301 d).toNat = R + 1
    rw [f1]
    omega
  refine h.deal hd fm ⟨by omega, by omega, by omega, by omega, by omega, by omega⟩ (fun _ r hr => ?_) (fun _ r q hr hq he => ?_) (fun e _ _ hh => by omega) ⟨fun e he _ hh => by rw [f3]; exact iO h he hh, fun hh => by omega⟩
  · by_cases c : r = R
    · rw [c, fR]
      exact hy
    · rw [fo r (by omega)]
      exact iRo h hd hk (by omega)
  · by_cases c : r = R
    · by_cases c2 : q = R
      · omega
      · rw [c, fR, fo q (by omega)] at he
        exact absurd he.symm (hno q (by omega))
    · by_cases c2 : q = R
      · rw [c2, fR, fo r (by omega)] at he
        exact absurd he (hno r (by omega))
      · rw [fo r (by omega), fo q (by omega)] at he
        exact iRd h hd hk (by omega) (by omega) he
theorem Inv.prep {m : xD} (h : Inv m) {d : Nat} (hd : d < 4) : Inv (xupd m 302 d 1) := by
  have i := iD h hd
  have f2 : xupd m 302 d 1 302 d = 1 := xupd_eq
  refine h.deal hd (fun a k hn => xupd_ne (by omega)) ⟨i.1, i.2.1, i.2.2.1, i.2.2.2.1, by rw [f2]; decide, by rw [f2]; decide⟩ (fun hk r hr => iRo h hd hk hr) (fun hk r q hr hq he => iRd h hd hk hr hq he) (fun e he _ hh => absurd hh.2 (by rw [f2]; decide)) ⟨fun e he _ hh => iO h he hh, fun hh => absurd hh.2 (by rw [f2]; decide)⟩
theorem Inv.newd {m : xD} (h : Inv m) {d : Nat} {x : Int} (hd : d < 4) (hx : 0 ≤ x ∧ x ≤ 3) : Inv (xupd (xupd (xupd m 300 d (x + 1)) 301 d 0) 302 d 0) := by
  have f0 : xupd (xupd (xupd m 300 d (x + 1)) 301 d 0) 302 d 0 300 d = x + 1 := (xupd_ne (by omega)).trans ((xupd_ne (by omega)).trans xupd_eq)
  have f1 : xupd (xupd (xupd m 300 d (x + 1)) 301 d 0) 302 d 0 301 d = 0 := (xupd_ne (by omega)).trans xupd_eq
  have f2 : xupd (xupd (xupd m 300 d (x + 1)) 301 d 0) 302 d 0 302 d = 0 := xupd_eq
  have n0 : nR (xupd (xupd (xupd m 300 d (x + 1)) 301 d 0) 302 d 0) d = 0 := by
    show (xupd (xupd (xupd m 300 d (x + 1)) 301 d 0) 302 d 0 301 d).toNat = 0
    rw [f1]
    rfl
  refine h.deal hd (fun a k hn => (xupd_ne (by omega)).trans ((xupd_ne (by omega)).trans (xupd_ne (by omega)))) (by rw [f0, f1, f2]; omega) (fun _ r hr => absurd hr (by omega)) (fun _ r q hr => absurd hr (by omega)) (fun e he _ hh => absurd hh.2 (by rw [f2]; decide)) ⟨fun e he _ hh => iO h he hh, fun hh => absurd hh.2 (by rw [f2]; decide)⟩
theorem Inv.see0 {m : xD} (h : Inv m) : Inv (xupd m 292 19 0) := ⟨h.1, h.2.1, h.2.2.1, h.2.2.2.1, h.2.2.2.2.1, h.2.2.2.2.2.1, h.2.2.2.2.2.2.1, h.2.2.2.2.2.2.2.1, h.2.2.2.2.2.2.2.2.1, ⟨Int.le_refl 0, (by decide : (0 : Int) ≤ 5), fun i hi => absurd (show ((i : Nat) : Int) < 0 from hi) (by omega)⟩, h.2.2.2.2.2.2.2.2.2.2⟩
theorem Inv.plan0 {m : xD} (h : Inv m) : Inv (xupd m 292 22 0) := ⟨h.1, h.2.1, h.2.2.1, h.2.2.2.1, h.2.2.2.2.1, h.2.2.2.2.2.1, h.2.2.2.2.2.2.1, h.2.2.2.2.2.2.2.1, h.2.2.2.2.2.2.2.2.1, h.2.2.2.2.2.2.2.2.2.1, ⟨Int.le_refl 0, (by decide : (0 : Int) ≤ 10), fun i hi => absurd (show ((i : Nat) : Int) < 0 from hi) (by omega)⟩, h.2.2.2.2.2.2.2.2.2.2.2⟩
theorem Inv.book0 {m : xD} (h : Inv m) : Inv (xupd m 292 25 0) := ⟨h.1, h.2.1, h.2.2.1, h.2.2.2.1, h.2.2.2.2.1, h.2.2.2.2.2.1, h.2.2.2.2.2.2.1, h.2.2.2.2.2.2.2.1, h.2.2.2.2.2.2.2.2.1, h.2.2.2.2.2.2.2.2.2.1, h.2.2.2.2.2.2.2.2.2.2.1, ⟨Int.le_refl 0, (by decide : (0 : Int) ≤ 8), fun i hi => absurd (show ((i : Nat) : Int) < 0 from hi) (by omega)⟩, h.2.2.2.2.2.2.2.2.2.2.2.2⟩
theorem Inv.see1 {m : xD} (h : Inv m) {x y : Int} (hx : 0 ≤ x ∧ x < m 292 0) (hn : ¬ m 292 19 = 5) : Inv (xupd (xupd (xupd m 306 (m 292 19).toNat x) 292 19 (m 292 19 + 1)) 307 (m 292 19).toNat y) := by
  have i := iS h
  refine ⟨h.1, h.2.1, h.2.2.1, h.2.2.2.1, h.2.2.2.2.1, h.2.2.2.2.2.1, h.2.2.2.2.2.2.1, h.2.2.2.2.2.2.2.1, h.2.2.2.2.2.2.2.2.1, ⟨(show 0 ≤ m 292 19 + 1 by omega), (show m 292 19 + 1 ≤ 5 by omega), fun k hk => ?_⟩, h.2.2.2.2.2.2.2.2.2.2⟩
  have hk : ((k : Nat) : Int) < m 292 19 + 1 := hk
  show 0 ≤ xupd (xupd (xupd m 306 (m 292 19).toNat x) 292 19 (m 292 19 + 1)) 307 (m 292 19).toNat y 306 k ∧ xupd (xupd (xupd m 306 (m 292 19).toNat x) 292 19 (m 292 19 + 1)) 307 (m 292 19).toNat y 306 k < m 292 0
  rw [xupd_ne (by omega), xupd_ne (by omega), xupd_c]
  split
  · exact hx
  · exact i.2.2 k (by omega)
theorem Inv.book1 {m : xD} (h : Inv m) {x y : Int} (hx : 0 ≤ x ∧ x < m 292 0) (hn : ¬ m 292 25 = 8) : Inv (xupd (xupd (xupd m 310 (m 292 25).toNat x) 292 25 (m 292 25 + 1)) 311 (m 292 25).toNat y) := by
  have i := iB h
  refine ⟨h.1, h.2.1, h.2.2.1, h.2.2.2.1, h.2.2.2.2.1, h.2.2.2.2.2.1, h.2.2.2.2.2.2.1, h.2.2.2.2.2.2.2.1, h.2.2.2.2.2.2.2.2.1, h.2.2.2.2.2.2.2.2.2.1, h.2.2.2.2.2.2.2.2.2.2.1, ⟨(show 0 ≤ m 292 25 + 1 by omega), (show m 292 25 + 1 ≤ 8 by omega), fun k hk => ?_⟩, h.2.2.2.2.2.2.2.2.2.2.2.2⟩
  have hk : ((k : Nat) : Int) < m 292 25 + 1 := hk
  show 0 ≤ xupd (xupd (xupd m 310 (m 292 25).toNat x) 292 25 (m 292 25 + 1)) 311 (m 292 25).toNat y 310 k ∧ xupd (xupd (xupd m 310 (m 292 25).toNat x) 292 25 (m 292 25 + 1)) 311 (m 292 25).toNat y 310 k < m 292 0
  rw [xupd_ne (by omega), xupd_ne (by omega), xupd_c]
  split
  · exact hx
  · exact i.2.2 k (by omega)
theorem Inv.plan1 {m : xD} (h : Inv m) {x y : Int} (hx : 0 ≤ x ∧ x ≤ 3) (hy : x = 3 → 0 ≤ y ∧ y < m 292 0) (hn : ¬ m 292 22 = 10) : Inv (xupd (xupd (xupd m 308 (m 292 22).toNat x) 292 22 (m 292 22 + 1)) 309 (m 292 22).toNat y) := by
  have i := iL h
  refine ⟨h.1, h.2.1, h.2.2.1, h.2.2.2.1, h.2.2.2.2.1, h.2.2.2.2.2.1, h.2.2.2.2.2.2.1, h.2.2.2.2.2.2.2.1, h.2.2.2.2.2.2.2.2.1, h.2.2.2.2.2.2.2.2.2.1, ⟨(show 0 ≤ m 292 22 + 1 by omega), (show m 292 22 + 1 ≤ 10 by omega), fun k hk => ?_⟩, h.2.2.2.2.2.2.2.2.2.2.2⟩
  have hk : ((k : Nat) : Int) < m 292 22 + 1 := hk
  show 0 ≤ xupd (xupd (xupd m 308 (m 292 22).toNat x) 292 22 (m 292 22 + 1)) 309 (m 292 22).toNat y 308 k ∧ xupd (xupd (xupd m 308 (m 292 22).toNat x) 292 22 (m 292 22 + 1)) 309 (m 292 22).toNat y 308 k ≤ 3 ∧ (xupd (xupd (xupd m 308 (m 292 22).toNat x) 292 22 (m 292 22 + 1)) 309 (m 292 22).toNat y 308 k = 3 → 0 ≤ xupd (xupd (xupd m 308 (m 292 22).toNat x) 292 22 (m 292 22 + 1)) 309 (m 292 22).toNat y 309 k ∧ xupd (xupd (xupd m 308 (m 292 22).toNat x) 292 22 (m 292 22 + 1)) 309 (m 292 22).toNat y 309 k < m 292 0)
  rw [show xupd (xupd (xupd m 308 (m 292 22).toNat x) 292 22 (m 292 22 + 1)) 309 (m 292 22).toNat y 308 k = if k = (m 292 22).toNat then x else m 308 k from (xupd_ne (by omega)).trans ((xupd_ne (by omega)).trans xupd_c), show xupd (xupd (xupd m 308 (m 292 22).toNat x) 292 22 (m 292 22 + 1)) 309 (m 292 22).toNat y 309 k = if k = (m 292 22).toNat then y else m 309 k from xupd_c.trans (by rw [xupd_ne (by omega), xupd_ne (by omega)])]
  by_cases c : k = (m 292 22).toNat
  · rw [if_pos c, if_pos c]
    exact ⟨hx.1, hx.2, hy⟩
  · rw [if_neg c, if_neg c]
    exact i.2.2 k (by omega)
theorem Inv.y_put {m : xD} (h : Inv m) {x y z w : Int} : Inv (y_put m x y z w).2 := by
  unfold Jvm.Pilot.CNameRevisionsLaw_law_r9551_db10b6.y_put
  split
  · have r := iRn h (show x.toNat < 4 by omega)
    (repeat' split) <;> first | exact h | skip
    exact h.put (d := x.toNat) (by omega) (by omega) (by assumption) rfl (by omega) (by omega) (by omega) (by omega) (by omega) (xix_no (P := fun r => m 303 (12 * x.toNat + r) = y) (K := nR m x.toNat) (by assumption))
  · exact h
theorem Sk.y_put {m : xD} (h : Inv m) {x y z w : Int} : Sk m (y_put m x y z w).2 := by
  unfold Jvm.Pilot.CNameRevisionsLaw_law_r9551_db10b6.y_put
  split
  · have r := iRn h (show x.toNat < 4 by omega)
    (repeat' split) <;> first | exact Sk.rf | skip
    exact (((Sk.rf.up (Cg_r (by omega))).up (Cg_r (by omega))).up (Cg_r (by omega))).up (Cg_d (by decide) (by omega))
  · exact Sk.rf
theorem Inv.y_prepare {m : xD} (h : Inv m) {x : Int} : Inv (y_prepare m x).2 := by
  unfold Jvm.Pilot.CNameRevisionsLaw_law_r9551_db10b6.y_prepare
  (repeat' split) <;> first | exact h | exact h.prep (by omega)
theorem Sk.y_prepare {m : xD} {x : Int} : Sk m (y_prepare m x).2 := by
  unfold Jvm.Pilot.CNameRevisionsLaw_law_r9551_db10b6.y_prepare
  (repeat' split) <;> first | exact Sk.rf | exact Sk.rf.up (Cg_d (by decide) (by omega))
theorem Inv.y_commit {m : xD} (h : Inv m) {x : Int} : Inv (y_commit m x).2 := by
  unfold Jvm.Pilot.CNameRevisionsLaw_law_r9551_db10b6.y_commit
  (repeat' split) <;> first | exact h | exact h.comm (by omega) (by omega) (by omega)
theorem Sk.y_commit {m : xD} {x : Int} : Sk m (y_commit m x).2 := by
  unfold Jvm.Pilot.CNameRevisionsLaw_law_r9551_db10b6.y_commit
  (repeat' split) <;> first | exact Sk.rf | exact (Sk.rf.up (Cg_d (by decide) (by omega))).up (Cg_0 (by decide))
theorem Inv.y_abandon {m : xD} (h : Inv m) {x : Int} : Inv (y_abandon m x).2 := by
  unfold Jvm.Pilot.CNameRevisionsLaw_law_r9551_db10b6.y_abandon
  (repeat' split) <;> first | exact h | exact h.gone
theorem Sk.y_abandon {m : xD} {x : Int} : Sk m (y_abandon m x).2 := by
  unfold Jvm.Pilot.CNameRevisionsLaw_law_r9551_db10b6.y_abandon
  (repeat' split) <;> first | exact Sk.rf | exact Sk.rf.up (Cg_d (by decide) (by omega))
theorem Inv.y_see {m : xD} (h : Inv m) {x y : Int} : Inv (y_see m x y).2 := by
  unfold Jvm.Pilot.CNameRevisionsLaw_law_r9551_db10b6.y_see
  (repeat' split) <;> first | exact h | exact h.see0 | exact h.see1 (by omega) (by omega)
theorem Sk.y_see {m : xD} (h : Inv m) {x y : Int} : Sk m (y_see m x y).2 := by
  have i := iS h
  unfold Jvm.Pilot.CNameRevisionsLaw_law_r9551_db10b6.y_see
  (repeat' split) <;> first | exact Sk.rf | exact Sk.rf.up (Cg_0 (by decide)) | exact ((Sk.rf.up (Cg_s (by decide) (by omega))).up (Cg_0 (by decide))).up (Cg_s (by decide) (by omega))
theorem Inv.y_book {m : xD} (h : Inv m) {x y : Int} : Inv (y_book m x y).2 := by
  unfold Jvm.Pilot.CNameRevisionsLaw_law_r9551_db10b6.y_book
  (repeat' split) <;> first | exact h | exact h.book0 | exact h.book1 (by omega) (by omega)
theorem Sk.y_book {m : xD} (h : Inv m) {x y : Int} : Sk m (y_book m x y).2 := by
  have i := iB h
  unfold Jvm.Pilot.CNameRevisionsLaw_law_r9551_db10b6.y_book
  (repeat' split) <;> first | exact Sk.rf | exact Sk.rf.up (Cg_0 (by decide)) | exact ((Sk.rf.up (Cg_b (by decide) (by omega))).up (Cg_0 (by decide))).up (Cg_b (by decide) (by omega))
theorem Inv.y_plan {m : xD} (h : Inv m) {x y : Int} : Inv (y_plan m x y).2 := by
  unfold Jvm.Pilot.CNameRevisionsLaw_law_r9551_db10b6.y_plan
  (repeat' split) <;> first | exact h | exact h.plan0 | exact h.plan1 (by omega) (by omega) (by omega)
theorem Sk.y_plan {m : xD} (h : Inv m) {x y : Int} : Sk m (y_plan m x y).2 := by
  have i := iL h
  unfold Jvm.Pilot.CNameRevisionsLaw_law_r9551_db10b6.y_plan
  (repeat' split) <;> first | exact Sk.rf | exact Sk.rf.up (Cg_0 (by decide)) | exact ((Sk.rf.up (Cg_l (by decide) (by omega))).up (Cg_0 (by decide))).up (Cg_l (by decide) (by omega))
theorem Inv.y_deal {m : xD} (h : Inv m) {x : Int} : Inv (y_deal m x).2 := by
  have e : sFre m ≤ 4 := xfst_le _ 4
  unfold Jvm.Pilot.CNameRevisionsLaw_law_r9551_db10b6.y_deal
  (repeat' split) <;> first | exact h | exact h.newd (by omega) (by omega)
theorem Sk.y_deal {m : xD} {x : Int} : Sk m (y_deal m x).2 := by
  have e : sFre m ≤ 4 := xfst_le _ 4
  unfold Jvm.Pilot.CNameRevisionsLaw_law_r9551_db10b6.y_deal
  (repeat' split) <;> first | exact Sk.rf | exact ((Sk.rf.up (Cg_d (by decide) (by omega))).up (Cg_d (by decide) (by omega))).up (Cg_d (by decide) (by omega))
theorem Inv.y_repack {m : xD} (h : Inv m) : Inv (y_repack m).2 := by
  unfold Jvm.Pilot.CNameRevisionsLaw_law_r9551_db10b6.y_repack
  split
  · exact h
  · exact h.zw
theorem Sk.y_repack {m : xD} : Sk m (y_repack m).2 := by
  unfold Jvm.Pilot.CNameRevisionsLaw_law_r9551_db10b6.y_repack
  split
  · exact Sk.rf
  · exact ((Sk.rf.up (Cg_0 (by decide))).up (Cg_0 (by decide))).tr (fun a k hh => if_neg (fun c => hh (Cg_n (Or.inr c.1) c.2)))
theorem Inv.y_step {m : xD} (h : Inv m) {x y : Int} : Inv (y_step m x y).2 := by
  unfold Jvm.Pilot.CNameRevisionsLaw_law_r9551_db10b6.y_step
  (repeat' split) <;> first | exact h | exact h.steps _
theorem Sk.y_step {m : xD} (h : Inv m) {x y : Int} : Sk m (y_step m x y).2 := by
  unfold Jvm.Pilot.CNameRevisionsLaw_law_r9551_db10b6.y_step
  (repeat' split) <;> first | exact Sk.rf | exact Sk.un (Un.steps _ h)
theorem Inv.y_crash {m : xD} (h : Inv m) : Inv (y_crash m).2 := h.cr
theorem Sk.y_crash {m : xD} (h : Inv m) : Sk m (y_crash m).2 := Sk.un (Un.cr h)
theorem tDr_N {m : xD} {n g : Nat} : nN (tDr n g m) = nN m := by
  unfold nN
  rw [tDr_kp g 292 0 (by omega)]
theorem Sk.dr {m : xD} (h : Inv m) {n : Nat} (hn : n < nN m) : ∀ g, g ≤ nJ m n → Sk m (tDr n g m)
  | 0, _ => Sk.rf
  | g + 1, hg => (Sk.dr h hn g (by omega)).tr (Sk.un (Un.drop (by have := iNn h; omega) (iJn (h.dr hn (show g ≤ nJ m n by omega)) (show n < nN (tDr n g m) by rw [tDr_N]; exact hn)).2))
theorem Sk.ex {m : xD} (h : Inv m) {x : Int} : ∀ K, K ≤ nN m → Sk m (tEx m x K).2
  | 0, _ => Sk.rf
  | K + 1, hK => by
    have a := tEx_ok h (x := x) K (by omega)
    exact (Sk.ex h K (by omega)).tr (Sk.dr a.1 (by rw [a.2.2.1]; omega) _ sGn_le)
theorem Inv.y_expire {m : xD} (h : Inv m) {x : Int} : Inv (y_expire m x).2 := (tEx_ok h (nN m) (Nat.le_refl _)).1
theorem Sk.y_expire {m : xD} (h : Inv m) {x : Int} : Sk m (y_expire m x).2 := Sk.ex h (nN m) (Nat.le_refl _)
theorem Inv.y_undo {t m : xD} (h : Inv m) (hG : IMG t m) : Inv (y_undo m).2 := by
  have := hG.2.1
  unfold Jvm.Pilot.CNameRevisionsLaw_law_r9551_db10b6.y_undo
  split
  · exact h
  · exact (hG.2.2 (by omega)).2
theorem Sk.y_undo {m : xD} : Sk m (y_undo m).2 := by
  unfold Jvm.Pilot.CNameRevisionsLaw_law_r9551_db10b6.y_undo
  split
  · exact Sk.rf
  · exact Sk.ud
theorem Inv.y_after {m : xD} (h : Inv m) {x y z : Int} : Inv (y_after m x y z).2 := by
  have hI1 : Inv (tKe m 314 wAl) := h.vi vw_ke.symm
  unfold Jvm.Pilot.CNameRevisionsLaw_law_r9551_db10b6.y_after
  (repeat' split) <;> first | exact h | exact h.vi (vw_ag ((Un.steps y.toNat hI1).tr (Un.cr (hI1.steps y.toNat)))).symm
theorem Sk.y_after {m : xD} (h : Inv m) {x y z : Int} : Sk m (y_after m x y z).2 := by
  have hI1 : Inv (tKe m 314 wAl) := h.vi vw_ke.symm
  unfold Jvm.Pilot.CNameRevisionsLaw_law_r9551_db10b6.y_after
  (repeat' split) <;> first | exact Sk.rf | exact (Sk.ke.tr (Sk.un ((Un.steps y.toNat hI1).tr (Un.cr (hI1.steps y.toNat))))).tr Sk.ag
theorem Inv.y_ends {m : xD} (h : Inv m) {x : Int} : Inv (y_ends m x).2 := by
  have hI1 : Inv (tKe m 314 wAl) := h.vi vw_ke.symm
  unfold Jvm.Pilot.CNameRevisionsLaw_law_r9551_db10b6.y_ends
  split
  · exact h.vi (vw_ag (tPn_ok hI1 (m 292 22).toNat (Nat.le_refl _)).2).symm
  · exact h
theorem Sk.y_ends {m : xD} (h : Inv m) {x : Int} : Sk m (y_ends m x).2 := by
  have hI1 : Inv (tKe m 314 wAl) := h.vi vw_ke.symm
  unfold Jvm.Pilot.CNameRevisionsLaw_law_r9551_db10b6.y_ends
  split
  · exact (Sk.ke.tr (Sk.un (tPn_ok hI1 (m 292 22).toNat (Nat.le_refl _)).2)).tr Sk.ag
  · exact Sk.rf
