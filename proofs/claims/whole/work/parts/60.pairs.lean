/-! THE LAW: ITS RELATION, AND EACH PAIR OF CALLS -/
/-- the class's side, and what holds of the state -/
def CS (Z : Nat → Int) (n : Nat) (t m : xD) : Prop := Rep t 0 m ∧ Inv m ∧ MX m ∧ TX t m ∧ TP t m ∧ MT m ∧ Mst t 1 ∧ Mst t 2 ∧ IMG t m ∧ (∀ j, j < n → t 0 j = Z j) ∧ (∀ j, j < 4 → t 1 j = if j = 0 then -1 else if j = 3 then 1 else 0)
def LR (Z : Nat → Int) (n : Nat) (t m : xD) : Prop := Mo t m ∧ CS Z n t m
/-- a pair of calls: the same answer, and the relation holds again -/
def PC (Z : Nat → Int) (n mc mm : Nat) (as : List xV) (g : xG) (t : xD) (v : Option xV) : Prop := xCall 29 mc ((2, ((2 : Nat) : Int)) :: as) g t (fun r g1 t1 => g1 = g ∧ r = v ∧ (∀ j, j < n → t1 0 j = Z j) ∧ xCall 29 mm ((2, ((292 : Nat) : Int)) :: as) g t1 (fun r2 g2 t2 => g2 = g ∧ r2 = v ∧ ∃ w, LR Z n t2 w))
theorem Ik.rf {m : xD} : Ik m m := fun _ _ _ => rfl
theorem CS.md {Z : Nat → Int} {n : Nat} {t u w : xD} (h : CS Z n t w) (e : Md t u) : CS Z n u w := by
  obtain ⟨hR, hI, hMX, hTX, hTP, hMT, m1, m2, hG, a0, a1⟩ := h
  exact ⟨hR.st hI (fun a k h1 h2 => e a k (by omega)), hI, hMX, hTX.fr (fun b j hb => e b j (by omega)), hTP.fr (fun b j h1 h2 => e b j (by omega)), hMT, m1.fr (fun a k h1 h2 => e a k (by omega)), m2.fr (fun a k h1 h2 => e a k (by omega)), hG.ik Ik.rf (e 2 6 (by omega)) (fun a k h1 h2 => e a k (by omega)), fun j hj => (e 0 j (by omega)).trans (a0 j hj), fun j hj => (e 1 j (by omega)).trans (a1 j hj)⟩
theorem CS.sk {Z : Nat → Int} {n : Nat} {t m w : xD} (h : CS Z n t m) (k : Sk m w) (e : vw m = vw w) : CS Z n t w := by
  obtain ⟨hR, hI, hMX, hTX, hTP, hMT, m1, m2, hG, a0, a1⟩ := h
  exact ⟨hR.vi e, hI.vi e, hMX.sk k, hTX.sk k, hTP.sk k, hMT.sk k, m1, m2, hG.ik k.ik rfl (fun _ _ _ _ => rfl), a0, a1⟩
theorem CS.z {Z : Nat → Int} {n : Nat} {t u m w : xD} (h : CS Z n t m) (f : Fr 0 t u) (hR : Rep u 0 w) (hI : Inv w) (k : Sk m w) : CS Z n u w := by
  obtain ⟨_, _, hMX, hTX, hTP, hMT, m1, m2, hG, a0, a1⟩ := h
  exact ⟨hR, hI, hMX.sk k, (hTX.fr (fun b j hb => f b j (by omega))).sk k, (hTP.fr (fun b j h1 h2 => f b j (by omega))).sk k, hMT.sk k, m1.fr (fun a j h1 h2 => f a j (by omega)), m2.fr (fun a j h1 h2 => f a j (by omega)), hG.ik k.ik (f 2 6 (by omega)) (fun a j h1 h2 => f a j (by omega)), fun j hj => (f 0 j (by omega)).trans (a0 j hj), fun j hj => (f 1 j (by omega)).trans (a1 j hj)⟩
theorem CS.z2 {Z : Nat → Int} {n : Nat} {t u m w : xD} (h : CS Z n t m) (f : Fr 2 t u) (hR : Rep u 0 w) (m2 : Mst u 2) (hI : Inv w) (k : Sk m w) : CS Z n u w := by
  obtain ⟨_, _, hMX, hTX, hTP, hMT, m1, _, hG, a0, a1⟩ := h
  exact ⟨hR, hI, hMX.sk k, (hTX.fr (fun b j hb => f b j (by omega))).sk k, (hTP.fr (fun b j h1 h2 => f b j (by omega))).sk k, hMT.sk k, m1.fr (fun a j h1 h2 => f a j (by omega)), m2, hG.ik k.ik (f 2 6 (by omega)) (fun a j h1 h2 => f a j (by omega)), fun j hj => (f 0 j (by omega)).trans (a0 j hj), fun j hj => (f 1 j (by omega)).trans (a1 j hj)⟩
theorem CS.gt {Z : Nat → Int} {n : Nat} {t u m : xD} (h : CS Z n t m) (f : Gt t u) (hR : Rep u 0 m) : CS Z n u m := by
  obtain ⟨_, hI, hMX, hTX, hTP, hMT, m1, m2, hG, a0, a1⟩ := h
  exact ⟨hR, hI, hMX, hTX.fr (fun b j hb => f b j (by omega)), hTP.fr (fun b j h1 h2 => f b j (by omega)), hMT, m1.fr (fun a j h1 h2 => f a j (by omega)), m2.fr (fun a j h1 h2 => f a j (by omega)), hG.ik Ik.rf (f 2 6 (by omega)) (fun a j h1 h2 => f a j (by omega)), fun j hj => (f 0 j (by omega)).trans (a0 j hj), fun j hj => (f 1 j (by omega)).trans (a1 j hj)⟩
theorem xy {D mm : Nat} {as : List xV} {g : xG} {u m : xD} {v : Option xV} (hu : Mo u m) (h : xCall D mm as g u (xQ g u v)) : xCall D mm as g u (yQ g u (v, m)) := xCall_mono h (by
  rintro r g1 t1 ⟨rfl, rfl, rfl⟩
  exact ⟨rfl, rfl, hu, Md.rf⟩)
theorem xs {D mm : Nat} {as : List xV} {g : xG} {u m : xD} {v : xV} (hu : Mo u m) (h : xCall D mm as g u (xQ g u (some v))) : xCall D mm as g u (sQ g u m v) := xCall_mono h (by
  rintro r g1 t1 ⟨rfl, rfl, rfl⟩
  exact ⟨rfl, rfl, Md.rf, m, hu, Sy.rf⟩)
theorem xz {D mc : Nat} {as : List xV} {g : xG} {t m : xD} {v : Option xV} (hR : Rep t 0 m) (h : xCall D mc as g t (xQ g t v)) : xCall D mc as g t (zQ 0 g t (v, m)) := xCall_mono h (by
  rintro r g1 t1 ⟨rfl, rfl, rfl⟩
  exact ⟨rfl, rfl, hR, Fr.rf⟩)
variable {Z : Nat → Int} {n mc mm : Nat} {as : List xV} {g : xG} {t m : xD}
theorem LR.zy {S : Option xV × xD} (h : LR Z n t m) (hc : xCall 29 mc ((2, ((2 : Nat) : Int)) :: as) g t (zQ 0 g t S)) (hm : ∀ u, Mo u m → xCall 29 mm ((2, ((292 : Nat) : Int)) :: as) g u (yQ g u S)) (hI : Inv S.2) (hS : Sk m S.2) : PC Z n mc mm as g t S.1 := xCall_mono hc (by
  rintro r g1 t1 ⟨rfl, rfl, hR, hF⟩
  have c := h.2.z hF hR hI hS
  refine ⟨rfl, rfl, c.2.2.2.2.2.2.2.2.2.1, xCall_mono (hm t1 (h.1.lo (fun a k ha => hF a k (by omega)))) ?_⟩
  rintro r2 g2 t2 ⟨rfl, rfl, hMo, hMd⟩
  exact ⟨rfl, rfl, S.2, hMo, c.md hMd⟩)
theorem LR.z2y {S : Option xV × xD} (h : LR Z n t m) (hc : xCall 29 mc ((2, ((2 : Nat) : Int)) :: as) g t (zQ2 g t S)) (hm : ∀ u, Mo u m → xCall 29 mm ((2, ((292 : Nat) : Int)) :: as) g u (yQ g u S)) (hI : Inv S.2) (hS : Sk m S.2) : PC Z n mc mm as g t S.1 := xCall_mono hc (by
  rintro r g1 t1 ⟨rfl, rfl, hR, hF, h2⟩
  have c := h.2.z2 hF hR h2 hI hS
  refine ⟨rfl, rfl, c.2.2.2.2.2.2.2.2.2.1, xCall_mono (hm t1 (h.1.lo (fun a k ha => hF a k (by omega)))) ?_⟩
  rintro r2 g2 t2 ⟨rfl, rfl, hMo, hMd⟩
  exact ⟨rfl, rfl, S.2, hMo, c.md hMd⟩)
theorem LR.os {v : xV} (h : LR Z n t m) (hc : xCall 29 mc ((2, ((2 : Nat) : Int)) :: as) g t (oQ g t m v)) (hm : ∀ u, Mo u m → xCall 29 mm ((2, ((292 : Nat) : Int)) :: as) g u (sQ g u m v)) : PC Z n mc mm as g t (some v) := xCall_mono hc (by
  rintro r g1 t1 ⟨rfl, rfl, hR, hF⟩
  have c := h.2.gt hF hR
  refine ⟨rfl, rfl, c.2.2.2.2.2.2.2.2.2.1, xCall_mono (hm t1 (h.1.lo (fun a k ha => hF a k (by omega)))) ?_⟩
  rintro r2 g2 t2 ⟨rfl, rfl, hMd, m1, hMo, hSy⟩
  exact ⟨rfl, rfl, m1, hMo, (c.md hMd).sk (Sk.sy hSy) hSy.vi⟩)
theorem vw_of {m w : xD} (h : ∀ a k, vis a k = true → w a k = m a k) : vw m = vw w := by
  funext a k
  unfold vw
  cases hv : vis a k with
  | false => rfl
  | true => exact (h a k hv).symm
/-- the tapes' calls -/
def K1 (m w : xD) : Prop := ∀ a k, ¬ (316 ≤ a ∧ a ≤ 318) → w a k = m a k
theorem K1.rf {m : xD} : K1 m m := fun _ _ _ => rfl
theorem K1.vi {m w : xD} (h : K1 m w) : vw m = vw w := vw_of (fun a k hv => h a k (by have := vis_r hv; omega))
theorem K1.ik {m w : xD} (h : K1 m w) : Ik m w := fun a k hh => h a k (fun c => hh (by omega))
theorem MX.of {m w : xD} (h : MX m) (e : w 292 17 = m 292 17) (f : ∀ i, w 305 i = m 305 i) : MX w := by
  unfold MX
  rw [e]
  refine ⟨h.1, h.2.1, fun i hi => ?_⟩
  rw [f i]
  exact h.2.2 i hi
theorem TX.of {t m w : xD} (h : TX t m) (e : w 292 17 = m 292 17) (f : ∀ i, w 305 i = m 305 i) : TX t w := by
  unfold TX
  rw [e]
  refine ⟨h.1, fun i hi => ?_⟩
  rw [f i]
  exact h.2 i hi
theorem MT.of {m w : xD} (h : MT m) (f : ∀ a k, 316 ≤ a → a ≤ 318 → w a k = m a k) : MT w := fun i hi => by
  rw [f 316 i (by omega) (by omega), f 317 i (by omega) (by omega)]
  exact h i hi
theorem TP.of {t m w : xD} (h : TP t m) (f : ∀ a k, 316 ≤ a → a ≤ 318 → w a k = m a k) : TP t w := fun i hi => by
  rw [f 316 i (by omega) (by omega), f 317 i (by omega) (by omega)]
  refine ⟨(h i hi).1, (h i hi).2.1, fun j hj => ?_⟩
  rw [f 318 _ (by omega) (by omega)]
  exact (h i hi).2.2 j hj
theorem LR.ty {S : Option xV × xD} (h : LR Z n t m) (hc : xCall 29 mc ((2, ((2 : Nat) : Int)) :: as) g t (tQ0 g t S)) (hm : ∀ u, Mo u m → xCall 29 mm ((2, ((292 : Nat) : Int)) :: as) g u (yQ g u S)) (hT : MT S.2) (hS : K1 m S.2) : PC Z n mc mm as g t S.1 := xCall_mono hc (by
  rintro r g1 t1 ⟨rfl, rfl, hP, f⟩
  have c : CS Z n t1 S.2 := by
    obtain ⟨hR, hI, hMX, hTX, hTP, hMT, m1, m2, hG, a0, a1⟩ := h.2
    have e := hS.vi
    exact ⟨(hR.st hI (fun a k h1 h2 => f a k (by omega))).vi e, hI.vi e, hMX.of (hS 292 17 (by omega)) (fun i => hS 305 i (by omega)), (hTX.fr (fun b j hb => f b j (by omega))).of (hS 292 17 (by omega)) (fun i => hS 305 i (by omega)), hP, hT, m1.fr (fun a j h1 h2 => f a j (by omega)), m2.fr (fun a j h1 h2 => f a j (by omega)), hG.ik hS.ik (f 2 6 (by omega)) (fun a j h1 h2 => f a j (by omega)), fun j hj => (f 0 j (by omega)).trans (a0 j hj), fun j hj => (f 1 j (by omega)).trans (a1 j hj)⟩
  refine ⟨rfl, rfl, c.2.2.2.2.2.2.2.2.2.1, xCall_mono (hm t1 (h.1.lo (fun a k ha => f a k (by omega)))) ?_⟩
  rintro r2 g2 t2 ⟨rfl, rfl, hMo, hMd⟩
  exact ⟨rfl, rfl, S.2, hMo, c.md hMd⟩)
theorem LR.xy {S : Option xV × xD} (h : LR Z n t m) (hc : xCall 29 mc ((2, ((2 : Nat) : Int)) :: as) g t (txQ g t S)) (hm : ∀ u, Mo u m → xCall 29 mm ((2, ((292 : Nat) : Int)) :: as) g u (yQ g u S)) (hX : MX S.2) (hS : ∀ a k, ¬ (a = 305 ∨ (a = 292 ∧ k = 17)) → S.2 a k = m a k) : PC Z n mc mm as g t S.1 := xCall_mono hc (by
  rintro r g1 t1 ⟨rfl, rfl, hP, f⟩
  have c : CS Z n t1 S.2 := by
    obtain ⟨hR, hI, hMX, hTX, hTP, hMT, m1, m2, hG, a0, a1⟩ := h.2
    have e : vw m = vw S.2 := vw_of (fun a k hv => hS a k (by have := vis_r hv; omega))
    exact ⟨(hR.st hI (fun a k h1 h2 => f a k (by omega))).vi e, hI.vi e, hX, hP, (hTP.fr (fun b j h1 h2 => f b j (by omega))).of (fun a k h1 h2 => hS a k (by omega)), hMT.of (fun a k h1 h2 => hS a k (by omega)), m1.fr (fun a j h1 h2 => f a j (by omega)), m2.fr (fun a j h1 h2 => f a j (by omega)), hG.ik (fun a k hh => hS a k (fun c => hh (by omega))) (f 2 6 (by omega)) (fun a j h1 h2 => f a j (by omega)), fun j hj => (f 0 j (by omega)).trans (a0 j hj), fun j hj => (f 1 j (by omega)).trans (a1 j hj)⟩
  refine ⟨rfl, rfl, c.2.2.2.2.2.2.2.2.2.1, xCall_mono (hm t1 (h.1.lo (fun a k ha => f a k (by omega)))) ?_⟩
  rintro r2 g2 t2 ⟨rfl, rfl, hMo, hMd⟩
  exact ⟨rfl, rfl, S.2, hMo, c.md hMd⟩)
theorem LR.ny {S : Option xV × xD} (h : LR Z n t m) (hc : xCall 29 mc ((2, ((2 : Nat) : Int)) :: as) g t (nQ g t S)) (hm : ∀ u, Mo u m → xCall 29 mm ((2, ((292 : Nat) : Int)) :: as) g u (yQ g u S)) (hI : Inv S.2) (hX : S.2 292 17 = 0) (hS : ∀ a k, ¬ (Cg a k ∨ (a = 292 ∧ k = 17)) → S.2 a k = m a k) : PC Z n mc mm as g t S.1 := xCall_mono hc (by
  rintro r g1 t1 ⟨rfl, rfl, hR, hP, f⟩
  have hT : ∀ a k, 316 ≤ a → a ≤ 318 → S.2 a k = m a k := fun a k h1 h2 => hS a k (by unfold Cg im; omega)
  have c : CS Z n t1 S.2 := by
    obtain ⟨_, _, hMX, hTX, hTP, hMT, m1, m2, hG, a0, a1⟩ := h.2
    exact ⟨hR, hI, ⟨by rw [hX]; decide, by rw [hX]; decide, fun i hi => absurd hi (by rw [hX]; omega)⟩, hP, (hTP.fr (fun b j h1 h2 => f b j (by omega))).of hT, hMT.of hT, m1.fr (fun a j h1 h2 => f a j (by omega)), m2.fr (fun a j h1 h2 => f a j (by omega)), hG.ik (fun a k hh => hS a k (fun c => hh (c.elim Or.inl (fun e => Or.inr (Or.inr (Or.inl e)))))) (f 2 6 (by omega)) (fun a j h1 h2 => f a j (by omega)), fun j hj => (f 0 j (by omega)).trans (a0 j hj), fun j hj => (f 1 j (by omega)).trans (a1 j hj)⟩
  refine ⟨rfl, rfl, c.2.2.2.2.2.2.2.2.2.1, xCall_mono (hm t1 (h.1.lo (fun a k ha => f a k (by omega)))) ?_⟩
  rintro r2 g2 t2 ⟨rfl, rfl, hMo, hMd⟩
  exact ⟨rfl, rfl, S.2, hMo, c.md hMd⟩)
-- the tapes' states
theorem MT.tp {m : xD} (h : MT m) {x y z : Int} (hx : 0 ≤ x ∧ x ≤ 5) (hy : -1 ≤ y ∧ y ≤ 4) (hz : 0 ≤ y → 0 ≤ z ∧ z ≤ 60) : MT (tTp m x.toNat y z) := fun i hi => by
  have e6 : tTp m x.toNat y z 316 i = if i = x.toNat then y else m 316 i := by
    rw [tTp_at, if_neg (show ¬ ((316 : Nat) = 318 ∧ 60 * x.toNat ≤ i ∧ i < 60 * x.toNat + 60) by omega), if_neg (show ¬ ((316 : Nat) = 317 ∧ i = x.toNat) by omega)]
    by_cases c : i = x.toNat
    · rw [if_pos (show (316 : Nat) = 316 ∧ i = x.toNat from ⟨rfl, c⟩), if_pos c]
    · rw [if_neg (show ¬ ((316 : Nat) = 316 ∧ i = x.toNat) by omega), if_neg c]
  have e7 : tTp m x.toNat y z 317 i = if i = x.toNat then (if y < 0 then 0 else z) else m 317 i := by
    rw [tTp_at, if_neg (show ¬ ((317 : Nat) = 318 ∧ 60 * x.toNat ≤ i ∧ i < 60 * x.toNat + 60) by omega), if_neg (show ¬ ((317 : Nat) = 316 ∧ i = x.toNat) by omega)]
    by_cases c : i = x.toNat
    · rw [if_pos (show (317 : Nat) = 317 ∧ i = x.toNat from ⟨rfl, c⟩), if_pos c]
    · rw [if_neg (show ¬ ((317 : Nat) = 317 ∧ i = x.toNat) by omega), if_neg c]
  rw [e6, e7]
  by_cases c : i = x.toNat
  · rw [if_pos c, if_pos c]
    split <;> omega
  · rw [if_neg c, if_neg c]
    exact h i hi
theorem MT.y_tape {m : xD} (h : MT m) {x y z : Int} : MT (y_tape m x y z).2 := by
  unfold Jvm.Pilot.CNameRevisionsLaw_law_r9551_db10b6.y_tape
  (repeat' split) <;> first | exact h | exact h.tp (by omega) (by omega) (by omega)
theorem K1.y_tape {m : xD} {x y z : Int} : K1 m (y_tape m x y z).2 := by
  unfold Jvm.Pilot.CNameRevisionsLaw_law_r9551_db10b6.y_tape
  (repeat' split) <;> first | exact K1.rf | exact fun a k hh => tTp_at.trans ((if_neg (by omega)).trans ((if_neg (by omega)).trans (if_neg (by omega))))
theorem MT.it {m : xD} (h : MT m) {p : Nat} {v : Int} : MT (xupd m 318 p v) := fun i hi => by
  rw [xupd_ne (by omega), xupd_ne (by omega)]
  exact h i hi
theorem MT.sh {m : xD} (h : MT m) {s e lo hi : Nat} : MT (tSh m s e lo hi) := fun q hq => by
  rw [tSh_ne (by omega), tSh_ne (by omega)]
  exact h q hq
theorem MT.y_item {m : xD} (h : MT m) {x y z : Int} : MT (y_item m x y z).2 := by
  unfold Jvm.Pilot.CNameRevisionsLaw_law_r9551_db10b6.y_item
  (repeat' split) <;> first | exact h | exact h.it
theorem K1.y_item {m : xD} {x y z : Int} : K1 m (y_item m x y z).2 := by
  unfold Jvm.Pilot.CNameRevisionsLaw_law_r9551_db10b6.y_item
  (repeat' split) <;> first | exact K1.rf | exact fun a k hh => xupd_ne (by omega)
theorem MT.y_shift {m : xD} (h : MT m) {x i z j n : Int} : MT (y_shift m x i z j n).2 := by
  unfold Jvm.Pilot.CNameRevisionsLaw_law_r9551_db10b6.y_shift
  (repeat' split) <;> first | exact h | exact h.sh
theorem K1.y_shift {m : xD} {x i z j n : Int} : K1 m (y_shift m x i z j n).2 := by
  unfold Jvm.Pilot.CNameRevisionsLaw_law_r9551_db10b6.y_shift
  (repeat' split) <;> first | exact K1.rf | exact fun a k hh => tSh_ne (by omega)
theorem MX.y_feed {m : xD} (h : MX m) {x : Int} : MX (y_feed m x).2 := by
  unfold Jvm.Pilot.CNameRevisionsLaw_law_r9551_db10b6.y_feed
  have h1 := h.1
  have h2 := h.2.1
  (repeat' split)
  · exact h
  · have e1 : xupd (xupd m 292 17 (m 292 17 + 1)) 305 (m 292 17).toNat x 292 17 = m 292 17 + 1 := (xupd_ne (by omega)).trans xupd_eq
    show MX (xupd (xupd m 292 17 (m 292 17 + 1)) 305 (m 292 17).toNat x)
    unfold MX
    rw [e1]
    refine ⟨by omega, by omega, fun i hi => ?_⟩
    rw [xupd_c]
    split
    · omega
    · rw [xupd_ne (by omega)]
      exact h.2.2 i (by omega)
  · exact h
theorem K2.y_feed {m : xD} {x : Int} : ∀ a k, ¬ (a = 305 ∨ (a = 292 ∧ k = 17)) → (y_feed m x).2 a k = m a k := fun a k hh => by
  unfold Jvm.Pilot.CNameRevisionsLaw_law_r9551_db10b6.y_feed
  (repeat' split)
  · rfl
  · exact (xupd_ne (by omega)).trans (xupd_ne (by omega))
  · rfl
theorem K3.y_name {m : xD} (hI : Inv m) : ∀ a k, ¬ (Cg a k ∨ (a = 292 ∧ k = 17)) → (y_name m).2 a k = m a k := fun a k hh => by
  have N := iNn hI
  have x1 : xupd m 292 17 0 a k = m a k := xupd_ne (fun c => hh (Or.inr c))
  unfold Jvm.Pilot.CNameRevisionsLaw_law_r9551_db10b6.y_name
  split
  · rename_i hF
    have f := sFau_no hF
    split
    · split
      · exact x1
      · show tNm m a k = m a k
        rw [tNm_at]
        have nn : nN m < 12 := by omega
        by_cases c1 : a = 304 ∧ k = nN m
        · exact absurd (Or.inl (Cg_n (by omega) (by omega))) hh
        · rw [if_neg c1]
          by_cases c2 : a = 298 ∧ k = nN m
          · exact absurd (Or.inl (Cg_n (by omega) (by omega))) hh
          · rw [if_neg c2]
            by_cases c3 : a = 297 ∧ k = nN m
            · exact absurd (Or.inl (Cg_n (by omega) (by omega))) hh
            · rw [if_neg c3]
              by_cases c4 : a = 296 ∧ k = nN m
              · exact absurd (Or.inl (Cg_n (by omega) (by omega))) hh
              · rw [if_neg c4]
                by_cases c5 : a = 293 ∧ 8 * nN m ≤ k ∧ k < 8 * nN m + nT m
                · exact absurd (Or.inl (Or.inl (Or.inr (Or.inr (Or.inl ⟨c5.1, by omega⟩))))) hh
                · rw [if_neg c5]
                  by_cases c6 : a = 295 ∧ k = nN m
                  · exact absurd (Or.inl (Cg_n (by omega) (by omega))) hh
                  · rw [if_neg c6]
                    by_cases c7 : a = 294 ∧ k = nN m
                    · exact absurd (Or.inl (Cg_n (by omega) (by omega))) hh
                    · rw [if_neg c7]
                      by_cases c8 : a = 292 ∧ k = 0
                      · exact absurd (Or.inl (by rw [c8.1]; exact Cg_0 (by omega))) hh
                      · rw [if_neg c8, if_neg (fun c => hh (Or.inr c))]
    · exact x1
  · exact x1
/-- an image: what the model keeps of the state -/
theorem tIm_o {m : xD} {a k : Nat} (h2 : a ≠ 312) (h3 : a ≠ 313) (h : ¬ (a = 292 ∧ k = 28)) : tIm m a k = m a k := by
  unfold tIm tKb
  rw [if_neg (fun c => h2 c.1), if_neg (fun c => h2 c.1)]
  exact (tKe_ne h3).trans (xupd_ne h)
theorem tIm_28 {m : xD} : tIm m 292 28 = 1 := by
  unfold tIm tKb
  rw [if_neg (by omega), if_neg (by omega)]
  exact (tKe_ne (by decide)).trans xupd_eq
theorem tIm_12a {m : xD} {j : Nat} (h : j < 8) : tIm m 312 j = m 310 j := by
  unfold tIm tKb
  rw [if_pos ⟨rfl, h⟩]
  exact (tKe_ne (by decide)).trans (xupd_ne (by omega))
theorem tIm_12b {m : xD} {j : Nat} (h : j < 8) : tIm m 312 (8 + j) = m 311 j := by
  unfold tIm tKb
  rw [if_neg (by omega), if_pos (by omega)]
  exact (tKe_ne (by decide)).trans ((xupd_ne (by omega)).trans (congrArg (m 311) (by omega)))
theorem tIm_13 {m : xD} {j : Nat} (h : wAl j = true) (hp : ¬ (pa j = 292 ∧ pk j = 28)) : tIm m 313 j = m (pa j) (pk j) := by
  unfold tIm tKb
  rw [if_neg (by omega), if_neg (by omega)]
  exact (if_pos ⟨rfl, h⟩).trans (xupd_ne hp)
theorem tAg_ne {m : xD} {A a k : Nat} (h : ¬ im a k) : tAg m A wAl a k = m a k := if_neg (fun c => h (pOb_im.mp c.1))
theorem vis_292 {m : xD} : vw m = vw (tIm m) := vw_of (fun a k hv => by
  have r := vis_r hv
  exact tIm_o (by omega) (by omega) (by omega))
theorem vw_udim {m : xD} : vw m = vw (tUd (tIm m)) := by
  funext a k
  unfold vw
  cases hv : vis a k with
  | false => rfl
  | true =>
    have r := vis_r hv
    show m a k = tUd (tIm m) a k
    by_cases c1 : a = 310 ∧ k < 8
    · refine Eq.trans ?_ (if_pos c1).symm
      rw [tAg_ne (by unfold im; omega), tIm_12a c1.2, c1.1]
    · by_cases c2 : a = 311 ∧ k < 8
      · refine Eq.trans ?_ ((if_neg c1).trans (if_pos c2)).symm
        rw [tAg_ne (by unfold im; omega), tIm_12b c2.2, c2.1]
      · refine Eq.trans ?_ ((if_neg c1).trans (if_neg c2)).symm
        by_cases c3 : pOb a k = true ∧ wAl (pos a k) = true
        · have q := pOb_iff.mp c3.1
          refine Eq.trans ?_ (if_pos c3).symm
          rw [tIm_13 c3.2 (by rw [q.2.1, q.2.2]; omega), q.2.1, q.2.2]
        · refine Eq.trans ?_ (if_neg c3).symm
          exact (tIm_o (by omega) (by omega) (by omega)).symm
theorem LR.im (L : xLay g) (h : LR Z n t m) : PC Z n 99 189 [] g t (some (0, ((nN m : Nat) : Int))) := by
  obtain ⟨hR, hI, hMX, hTX, hTP, hMT, m1, m2, hG, a0, a1⟩ := id h.2
  refine xCall_mono (c_image (d := 25) L hI hR m1) ?_
  rintro r g1 t1 ⟨rfl, rfl, hR1, hR2, h6, f⟩
  have hT : ∀ a k, 305 ≤ a → a ≠ 312 → a ≠ 313 → tIm m a k = m a k := fun a k h1 h2 h3 => tIm_o h2 h3 (by omega)
  have h17 : tIm m 292 17 = m 292 17 := tIm_o (by decide) (by decide) (by decide)
  have h28 : tIm m 292 28 = 1 := tIm_28
  have c : CS Z n t1 (tIm m) := ⟨hR1.vi vis_292, hI.vi vis_292, hMX.of h17 (fun i => hT 305 i (by omega) (by omega) (by omega)), (hTX.fr (fun b j hb => f b j (by omega) (by omega))).of h17 (fun i => hT 305 i (by omega) (by omega) (by omega)), (hTP.fr (fun b j h1 h2 => f b j (by omega) (by omega))).of (fun a k h1 h2 => hT a k (by omega) (by omega) (by omega)), hMT.of (fun a k h1 h2 => hT a k (by omega) (by omega) (by omega)), hR2.mst, m2.fr (fun a j h1 h2 => f a j (by omega) (by omega)), ⟨h6.trans h28.symm, Or.inr h28, fun _ => ⟨hR2.vi vw_udim, hI.vi vw_udim⟩⟩, fun j hj => (f 0 j (by omega) (by omega)).trans (a0 j hj), fun j hj => (f 1 j (by omega) (by omega)).trans (a1 j hj)⟩
  refine ⟨rfl, rfl, c.2.2.2.2.2.2.2.2.2.1, xCall_mono (n_image (d := 28) L (h.1.lo (fun a k ha => f a k (by omega) (by omega))) hI) ?_⟩
  rintro r2 g2 t2 ⟨rfl, rfl, hMo, hMd⟩
  exact ⟨rfl, rfl, tIm m, hMo, c.md hMd⟩

theorem o_feed {x : Int} (L : xLay g) (h : LR Z n t m) (rx : xr32 x) : PC Z n 69 119 [(0, x)] g t ((y_feed m x).1) := by
  obtain ⟨hR, hI, hMX, hTX, hTP, hMT, m1, m2, hG, a0, a1⟩ := id h.2
  exact h.xy (S := y_feed m x) (c_feed (d := 29) L hTX hMX ) (fun u hu => n_feed (d := 28) L hu hI hMX ) (hMX.y_feed) K2.y_feed
theorem o_name (L : xLay g) (h : LR Z n t m) : PC Z n 70 123 [] g t ((y_name m).1) := by
  obtain ⟨hR, hI, hMX, hTX, hTP, hMT, m1, m2, hG, a0, a1⟩ := id h.2
  exact h.ny (S := y_name m) (c_name (d := 26) L hI hR hTX hMX ) (fun u hu => n_name (d := 27) L hu hI hMX ) (hI.y_name hMX) y_name_17 (K3.y_name hI)
theorem o_of {x y : Int} (L : xLay g) (h : LR Z n t m) (rx : xr32 x) (ry : xr32 y) : PC Z n 71 135 [(0, x), (0, y)] g t (some (0, y_of m x y)) := by
  obtain ⟨hR, hI, hMX, hTX, hTP, hMT, m1, m2, hG, a0, a1⟩ := id h.2
  exact h.zy (S := (some (0, y_of m x y), m)) (c_of (d := 26) L hI hR ) (fun u hu => xy hu (n_of (d := 26) L hu hI )) hI Sk.rf
theorem o_folder {x y : Int} (L : xLay g) (h : LR Z n t m) (rx : xr32 x) (ry : xr32 y) : PC Z n 72 136 [(0, x), (0, y)] g t (some (0, y_folder m x y)) := by
  obtain ⟨hR, hI, hMX, hTX, hTP, hMT, m1, m2, hG, a0, a1⟩ := id h.2
  exact h.zy (S := (some (0, y_folder m x y), m)) (c_folder (d := 28) L hI hR ) (fun u hu => xy hu (n_folder (d := 27) L hu hI )) hI Sk.rf
theorem o_list {x y : Int} (L : xLay g) (h : LR Z n t m) (rx : xr32 x) (ry : xr32 y) : PC Z n 73 137 [(0, x), (0, y)] g t (some (0, y_list m x y)) := by
  obtain ⟨hR, hI, hMX, hTX, hTP, hMT, m1, m2, hG, a0, a1⟩ := id h.2
  exact h.zy (S := (some (0, y_list m x y), m)) (c_list (d := 26) L hI hR ) (fun u hu => xy hu (n_list (d := 26) L hu hI ry )) hI Sk.rf
theorem o_journal {x y z : Int} (L : xLay g) (h : LR Z n t m) (rx : xr32 x) (ry : xr32 y) (rz : xr32 z) : PC Z n 74 138 [(0, x), (0, y), (0, z)] g t (some (0, y_journal m x y z)) := by
  obtain ⟨hR, hI, hMX, hTX, hTP, hMT, m1, m2, hG, a0, a1⟩ := id h.2
  exact h.zy (S := (some (0, y_journal m x y z), m)) (c_journal (d := 28) L hI hR ) (fun u hu => xy hu (n_journal (d := 27) L hu hI )) hI Sk.rf
theorem o_at {x y : Int} (L : xLay g) (h : LR Z n t m) (rx : xr32 x) (ry : xr32 y) : PC Z n 75 139 [(0, x), (0, y)] g t (some (0, y_at m x y)) := by
  obtain ⟨hR, hI, hMX, hTX, hTP, hMT, m1, m2, hG, a0, a1⟩ := id h.2
  exact h.zy (S := (some (0, y_at m x y), m)) (c_at (d := 28) L hI hR ) (fun u hu => xy hu (n_at (d := 27) L hu hI )) hI Sk.rf
theorem o_expire {x : Int} (L : xLay g) (h : LR Z n t m) (rx : xr32 x) : PC Z n 76 141 [(0, x)] g t ((y_expire m x).1) := by
  obtain ⟨hR, hI, hMX, hTX, hTP, hMT, m1, m2, hG, a0, a1⟩ := id h.2
  exact h.zy (S := y_expire m x) (c_expire (d := 27) L hI hR ) (fun u hu => n_expire (d := 28) L hu hI ) (hI.y_expire) (Sk.y_expire hI)
theorem o_deal {x : Int} (L : xLay g) (h : LR Z n t m) (rx : xr32 x) : PC Z n 77 142 [(0, x)] g t ((y_deal m x).1) := by
  obtain ⟨hR, hI, hMX, hTX, hTP, hMT, m1, m2, hG, a0, a1⟩ := id h.2
  exact h.zy (S := y_deal m x) (c_deal (d := 28) L hI hR ) (fun u hu => n_deal (d := 28) L hu hI ) (hI.y_deal) (Sk.y_deal)
theorem o_put {x y z w : Int} (L : xLay g) (h : LR Z n t m) (rx : xr32 x) (ry : xr32 y) (rz : xr32 z) (rw : xr32 w) : PC Z n 78 143 [(0, x), (0, y), (0, z), (0, w)] g t ((y_put m x y z w).1) := by
  obtain ⟨hR, hI, hMX, hTX, hTP, hMT, m1, m2, hG, a0, a1⟩ := id h.2
  exact h.zy (S := y_put m x y z w) (c_put (d := 28) L hI hR ) (fun u hu => n_put (d := 27) L hu hI ) (hI.y_put) (Sk.y_put hI)
theorem o_prepare {x : Int} (L : xLay g) (h : LR Z n t m) (rx : xr32 x) : PC Z n 79 149 [(0, x)] g t ((y_prepare m x).1) := by
  obtain ⟨hR, hI, hMX, hTX, hTP, hMT, m1, m2, hG, a0, a1⟩ := id h.2
  exact h.zy (S := y_prepare m x) (c_prepare (d := 25) L hI hR ) (fun u hu => n_prepare (d := 24) L hu hI ) (hI.y_prepare) (Sk.y_prepare)
theorem o_commit {x : Int} (L : xLay g) (h : LR Z n t m) (rx : xr32 x) : PC Z n 80 150 [(0, x)] g t ((y_commit m x).1) := by
  obtain ⟨hR, hI, hMX, hTX, hTP, hMT, m1, m2, hG, a0, a1⟩ := id h.2
  exact h.zy (S := y_commit m x) (c_commit (d := 27) L hI hR ) (fun u hu => n_commit (d := 27) L hu hI ) (hI.y_commit) (Sk.y_commit)
theorem o_abandon {x : Int} (L : xLay g) (h : LR Z n t m) (rx : xr32 x) : PC Z n 81 151 [(0, x)] g t ((y_abandon m x).1) := by
  obtain ⟨hR, hI, hMX, hTX, hTP, hMT, m1, m2, hG, a0, a1⟩ := id h.2
  exact h.zy (S := y_abandon m x) (c_abandon (d := 28) L hI hR ) (fun u hu => n_abandon (d := 27) L hu hI ) (hI.y_abandon) (Sk.y_abandon)
theorem o_repack (L : xLay g) (h : LR Z n t m) : PC Z n 82 157 [] g t ((y_repack m).1) := by
  obtain ⟨hR, hI, hMX, hTX, hTP, hMT, m1, m2, hG, a0, a1⟩ := id h.2
  exact h.zy (S := y_repack m) (c_repack (d := 27) L hI hR ) (fun u hu => n_repack (d := 28) L hu hI ) (hI.y_repack) (Sk.y_repack)
theorem o_step {x y : Int} (L : xLay g) (h : LR Z n t m) (rx : xr32 x) (ry : xr32 y) : PC Z n 83 160 [(0, x), (0, y)] g t ((y_step m x y).1) := by
  obtain ⟨hR, hI, hMX, hTX, hTP, hMT, m1, m2, hG, a0, a1⟩ := id h.2
  exact h.zy (S := y_step m x y) (c_step (d := 24) L hI hR ) (fun u hu => n_step (d := 23) L hu hI ) (hI.y_step) (Sk.y_step hI)
theorem o_crash (L : xLay g) (h : LR Z n t m) : PC Z n 84 163 [] g t ((y_crash m).1) := by
  obtain ⟨hR, hI, hMX, hTX, hTP, hMT, m1, m2, hG, a0, a1⟩ := id h.2
  exact h.zy (S := y_crash m) (c_crash (d := 24) L hI hR ) (fun u hu => n_crash (d := 22) L hu hI ) (hI.y_crash) (Sk.y_crash hI)
theorem o_told {x y : Int} (L : xLay g) (h : LR Z n t m) (rx : xr32 x) (ry : xr32 y) : PC Z n 85 164 [(0, x), (0, y)] g t (some (0, y_told m x y)) := by
  obtain ⟨hR, hI, hMX, hTX, hTP, hMT, m1, m2, hG, a0, a1⟩ := id h.2
  exact h.zy (S := (some (0, y_told m x y), m)) (c_told (d := 25) L hI hR ) (fun u hu => xy hu (n_told (d := 24) L hu hI )) hI Sk.rf
theorem o_state {x : Int} (L : xLay g) (h : LR Z n t m) (rx : xr32 x) : PC Z n 86 167 [(0, x)] g t (some (0, y_state m x)) := by
  obtain ⟨hR, hI, hMX, hTX, hTP, hMT, m1, m2, hG, a0, a1⟩ := id h.2
  exact h.os (c_state (d := 17) L hI hR ) (fun u hu => n_state (d := 14) L hu hI )
theorem o_after {x y z : Int} (L : xLay g) (h : LR Z n t m) (rx : xr32 x) (ry : xr32 y) (rz : xr32 z) : PC Z n 87 168 [(0, x), (0, y), (0, z)] g t ((y_after m x y z).1) := by
  obtain ⟨hR, hI, hMX, hTX, hTP, hMT, m1, m2, hG, a0, a1⟩ := id h.2
  exact h.z2y (S := y_after m x y z) (c_after (d := 24) L hI hR m2 ) (fun u hu => n_after (d := 22) L hu hI ) (hI.y_after) (Sk.y_after hI)
theorem o_orders {x : Int} (L : xLay g) (h : LR Z n t m) (rx : xr32 x) : PC Z n 88 175 [(0, x)] g t (some (0, y_orders m x)) := by
  obtain ⟨hR, hI, hMX, hTX, hTP, hMT, m1, m2, hG, a0, a1⟩ := id h.2
  exact h.os (c_orders (d := 13) L hI hR rx ) (fun u hu => n_orders (d := 15) L hu hI rx )
theorem o_could {x y z : Int} (L : xLay g) (h : LR Z n t m) (rx : xr32 x) (ry : xr32 y) (rz : xr32 z) : PC Z n 89 176 [(0, x), (0, y), (0, z)] g t (some (0, y_could m x y z)) := by
  obtain ⟨hR, hI, hMX, hTX, hTP, hMT, m1, m2, hG, a0, a1⟩ := id h.2
  exact h.os (c_could (d := 13) L hI hR rx ) (fun u hu => n_could (d := 15) L hu hI rx )
theorem o_see {x y : Int} (L : xLay g) (h : LR Z n t m) (rx : xr32 x) (ry : xr32 y) : PC Z n 90 177 [(0, x), (0, y)] g t ((y_see m x y).1) := by
  obtain ⟨hR, hI, hMX, hTX, hTP, hMT, m1, m2, hG, a0, a1⟩ := id h.2
  exact h.zy (S := y_see m x y) (c_see (d := 27) L hI hR ) (fun u hu => n_see (d := 27) L hu hI ) (hI.y_see) (Sk.y_see hI)
theorem o_fits {x y : Int} (L : xLay g) (h : LR Z n t m) (rx : xr32 x) (ry : xr32 y) : PC Z n 91 178 [(0, x), (0, y)] g t (some (0, y_fits m x y)) := by
  obtain ⟨hR, hI, hMX, hTX, hTP, hMT, m1, m2, hG, a0, a1⟩ := id h.2
  exact h.os (c_fits (d := 13) L hI hR rx ) (fun u hu => n_fits (d := 15) L hu hI rx )
theorem o_odds {x y z w : Int} (L : xLay g) (h : LR Z n t m) (rx : xr32 x) (ry : xr32 y) (rz : xr32 z) (rw : xr32 w) : PC Z n 92 180 [(0, x), (0, y), (0, z), (0, w)] g t (some (1, y_odds m x y z w)) := by
  obtain ⟨hR, hI, hMX, hTX, hTP, hMT, m1, m2, hG, a0, a1⟩ := id h.2
  exact h.os (c_odds (d := 13) L hI hR rx ) (fun u hu => n_odds (d := 15) L hu hI rx )
theorem o_mean {w : Int} (L : xLay g) (h : LR Z n t m) (rw : xr32 w) : PC Z n 93 181 [(0, w)] g t (some (1, y_mean m w)) := by
  obtain ⟨hR, hI, hMX, hTX, hTP, hMT, m1, m2, hG, a0, a1⟩ := id h.2
  exact h.os (c_mean (d := 27) L hI hR ) (fun u hu => xs hu (n_mean (d := 27) L hu hI ))
theorem o_plan {x y : Int} (L : xLay g) (h : LR Z n t m) (rx : xr32 x) (ry : xr32 y) : PC Z n 94 182 [(0, x), (0, y)] g t ((y_plan m x y).1) := by
  obtain ⟨hR, hI, hMX, hTX, hTP, hMT, m1, m2, hG, a0, a1⟩ := id h.2
  exact h.zy (S := y_plan m x y) (c_plan (d := 28) L hI hR ) (fun u hu => n_plan (d := 27) L hu hI ) (hI.y_plan) (Sk.y_plan hI)
theorem o_ends {x : Int} (L : xLay g) (h : LR Z n t m) (rx : xr32 x) : PC Z n 95 183 [(0, x)] g t ((y_ends m x).1) := by
  obtain ⟨hR, hI, hMX, hTX, hTP, hMT, m1, m2, hG, a0, a1⟩ := id h.2
  exact h.z2y (S := y_ends m x) (c_ends (d := 23) L hI hR m2 ) (fun u hu => n_ends (d := 22) L hu hI ) (hI.y_ends) (Sk.y_ends hI)
theorem o_book {x y : Int} (L : xLay g) (h : LR Z n t m) (rx : xr32 x) (ry : xr32 y) : PC Z n 96 184 [(0, x), (0, y)] g t ((y_book m x y).1) := by
  obtain ⟨hR, hI, hMX, hTX, hTP, hMT, m1, m2, hG, a0, a1⟩ := id h.2
  exact h.zy (S := y_book m x y) (c_book (d := 27) L hI hR ) (fun u hu => n_book (d := 27) L hu hI ) (hI.y_book) (Sk.y_book hI)
theorem o_looked (L : xLay g) (h : LR Z n t m) : PC Z n 97 185 [] g t (some (0, y_looked m)) := by
  obtain ⟨hR, hI, hMX, hTX, hTP, hMT, m1, m2, hG, a0, a1⟩ := id h.2
  exact h.zy (S := (some (0, y_looked m), m)) (c_looked (d := 27) L hI hR ) (fun u hu => xy hu (n_looked (d := 26) L hu hI )) hI Sk.rf
theorem o_judge {x y : Int} (L : xLay g) (h : LR Z n t m) (rx : xr32 x) (ry : xr32 y) : PC Z n 98 186 [(0, x), (0, y)] g t (some (0, y_judge m x y)) := by
  obtain ⟨hR, hI, hMX, hTX, hTP, hMT, m1, m2, hG, a0, a1⟩ := id h.2
  exact h.zy (S := (some (0, y_judge m x y), m)) (c_judge (d := 27) L hI hR hTP hMT ) (fun u hu => xy hu (n_judge (d := 26) L hu hI hMT ry )) hI Sk.rf
theorem o_undo (L : xLay g) (h : LR Z n t m) : PC Z n 100 190 [] g t ((y_undo m).1) := by
  obtain ⟨hR, hI, hMX, hTX, hTP, hMT, m1, m2, hG, a0, a1⟩ := id h.2
  exact h.zy (S := y_undo m) (c_undo (d := 25) L hI hR hG ) (fun u hu => n_undo (d := 28) L hu hI ) (hI.y_undo hG) (Sk.y_undo)
theorem o_taken {x y : Int} (L : xLay g) (h : LR Z n t m) (rx : xr32 x) (ry : xr32 y) : PC Z n 101 191 [(0, x), (0, y)] g t (some (0, y_taken m x y)) := by
  obtain ⟨hR, hI, hMX, hTX, hTP, hMT, m1, m2, hG, a0, a1⟩ := id h.2
  exact h.zy (S := (some (0, y_taken m x y), m)) (c_taken (d := 28) L hI hR (a1 0 (by decide)) (a1 1 (by decide)) (a1 2 (by decide)) (a1 3 (by decide)) ) (fun u hu => xy hu (n_taken (d := 27) L hu hI )) hI Sk.rf
theorem o_count {x : Int} (L : xLay g) (h : LR Z n t m) (rx : xr32 x) : PC Z n 102 192 [(0, x)] g t (some (0, y_count m x)) := by
  obtain ⟨hR, hI, hMX, hTX, hTP, hMT, m1, m2, hG, a0, a1⟩ := id h.2
  exact h.zy (S := (some (0, y_count m x), m)) (c_count (d := 28) L hI hR hTX ) (fun u hu => xy hu (n_count (d := 28) L hu hI )) hI Sk.rf
theorem o_tape {x y z : Int} (L : xLay g) (h : LR Z n t m) (rx : xr32 x) (ry : xr32 y) (rz : xr32 z) : PC Z n 103 194 [(0, x), (0, y), (0, z)] g t ((y_tape m x y z).1) := by
  obtain ⟨hR, hI, hMX, hTX, hTP, hMT, m1, m2, hG, a0, a1⟩ := id h.2
  exact h.ty (S := y_tape m x y z) (c_tape (d := 28) L hTP hMT ) (fun u hu => n_tape (d := 27) L hu hI hMT ) (hMT.y_tape) K1.y_tape
theorem o_item {x y z : Int} (L : xLay g) (h : LR Z n t m) (rx : xr32 x) (ry : xr32 y) : PC Z n 104 196 [(0, x), (0, y), (1, z)] g t ((y_item m x y z).1) := by
  obtain ⟨hR, hI, hMX, hTX, hTP, hMT, m1, m2, hG, a0, a1⟩ := id h.2
  exact h.ty (S := y_item m x y z) (c_item (d := 28) L hTP hMT ) (fun u hu => n_item (d := 27) L hu hI hMT ) (hMT.y_item) K1.y_item
theorem o_read {x y : Int} (L : xLay g) (h : LR Z n t m) (rx : xr32 x) (ry : xr32 y) : PC Z n 105 197 [(0, x), (0, y)] g t (some (1, y_read m x y)) := by
  obtain ⟨hR, hI, hMX, hTX, hTP, hMT, m1, m2, hG, a0, a1⟩ := id h.2
  exact h.zy (S := (some (1, y_read m x y), m)) (xz hR (c_read (d := 28) L hTP hMT )) (fun u hu => xy hu (n_read (d := 27) L hu hI hMT )) hI Sk.rf
theorem o_shift {K : Nat} {x i z j n : Int} (L : xLay g) (h : LR Z K t m) (rx : xr32 x) (ri : xr32 i) (rz : xr32 z) (rj : xr32 j) (rn : xr32 n) : PC Z K 106 198 [(0, x), (0, i), (0, z), (0, j), (0, n)] g t ((y_shift m x i z j n).1) := by
  obtain ⟨hR, hI, hMX, hTX, hTP, hMT, m1, m2, hG, a0, a1⟩ := id h.2
  exact h.ty (S := y_shift m x i z j n) (c_shift (d := 28) L hTP hMT ) (fun u hu => n_shift (d := 27) L hu hI hMT ri rj rn ) (hMT.y_shift) K1.y_shift