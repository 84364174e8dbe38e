/-! THE SCRIPT'S LENGTH AND INTS are nothing to a run that isn't the law's -/
def xrb (L : Nat) (g : xG) : xG := (g.1, (fun a => if a = 0 then (20, L) else g.2.1 a), g.2.2)
def xrt (L : Nat) (xs : Nat → Int32) (t : xD) : xD := fun a j => if a = 0 then xt0 L xs 0 j else t a j
theorem xrb_ne {L : Nat} {g : xG} {a : Nat} (h : a ≠ 0) : (xrb L g).2.1 a = g.2.1 a := if_neg h
theorem xrt_ne {L : Nat} {xs : Nat → Int32} {t : xD} {a j : Nat} (h : a ≠ 0) : xrt L xs t a j = t a j := if_neg h
theorem xrt_upd {L : Nat} {xs : Nat → Int32} {t : xD} {a k : Nat} {x : Int} (h : a ≠ 0) : xrt L xs (xupd t a k x) = xupd (xrt L xs t) a k x := by
  funext b j
  show (if b = 0 then xt0 L xs 0 j else if b = a ∧ j = k then x else t b j) = (if b = a ∧ j = k then x else if b = 0 then xt0 L xs 0 j else t b j)
  by_cases e : b = 0
  · rw [if_pos e, if_neg (by omega), if_pos e]
  · rw [if_neg e, if_neg e]
theorem xrt_cpy {L : Nat} {xs : Nat → Int32} {t : xD} {b sp a dp n : Nat} (h : a ≠ 0) (hb : b ≠ 0) : xrt L xs (xcpy t b sp a dp n) = xcpy (xrt L xs t) b sp a dp n := by
  funext c j
  show (if c = 0 then xt0 L xs 0 j else if c = a ∧ dp ≤ j ∧ j < dp + n then t b (sp + (j - dp)) else t c j) = (if c = a ∧ dp ≤ j ∧ j < dp + n then (if b = 0 then xt0 L xs 0 (sp + (j - dp)) else t b (sp + (j - dp))) else if c = 0 then xt0 L xs 0 j else t c j)
  by_cases e : c = 0
  · rw [if_pos e, if_neg (by omega), if_pos e]
  · rw [if_neg e, if_neg e, if_neg hb]
theorem xrb_new {L : Nat} {g : xG} {kd n : Nat} : xrb L (xnew g kd n) = xnew (xrb L g) kd n := by
  unfold xrb xnew
  refine Prod.ext rfl (Prod.ext (funext fun a => ?_) rfl)
  simp only
  by_cases e : a = 0
  · rw [if_pos e, if_neg (by omega), if_pos e]
  · rw [if_neg e, if_neg e]
theorem xrb_new2 {L : Nat} {g : xG} {n k : Nat} : xrb L (xnew2 g n k) = xnew2 (xrb L g) n k := by
  unfold xrb xnew2
  refine Prod.ext rfl (Prod.ext (funext fun a => ?_) rfl)
  simp only
  by_cases e : a = 0
  · rw [if_pos e, if_neg (by omega), if_neg (by omega), if_pos e]
  · rw [if_neg e, if_neg e]
theorem xobj_rb {L : Nat} {g : xG} {a ci k : Nat} (h0 : g.2.1 0 = (20, 0)) (h : xobj g a ci k) : a ≠ 0 ∧ xobj (xrb L g) a ci k := by
  have hz : a ≠ 0 := fun e => by
    have h2 := h.2
    rw [e, h0] at h2
    exact absurd h2 (Nat.not_lt_zero _)
  exact ⟨hz, by rw [xobj, xrb_ne hz]; exact h⟩
theorem xslot_rb {L : Nat} {xs : Nat → Int32} {g : xG} {t : xD} {a ci k : Nat} (h : a ≠ 0) : xslot (xrb L g) (xrt L xs t) a ci k = xslot g t a ci k := by
  unfold xslot
  rw [xrt_ne h]
  rfl
theorem xput_rb {L : Nat} {xs : Nat → Int32} {mi ci k a : Nat} {v : xV} {g : xG} {t : xD} {w : xG × xD} (h0 : g.2.1 0 = (20, 0)) (h : xput mi ci k a v g t = some w) : xput mi ci k a v (xrb L g) (xrt L xs t) = some (xrb L w.1, xrt L xs w.2) ∧ w.1.2.1 0 = (20, 0) := by
  unfold xput at h ⊢
  split at h
  case isFalse => cases h
  case isTrue hc =>
  obtain ⟨hz, ho⟩ := xobj_rb (L := L) h0 hc.1
  rw [if_pos ⟨ho, hc.2⟩]
  by_cases e2 : xft ci k = 2
  · rw [if_pos e2] at h ⊢
    split at h
    case isFalse => cases h
    case isTrue h3 =>
    cases h
    rw [if_pos h3]
    exact ⟨rfl, h0⟩
  · rw [if_neg e2] at h ⊢
    cases h
    exact ⟨by rw [xrt_upd hz], h0⟩
theorem xald_rb {L : Nat} {xs : Nat → Int32} {kd a : Nat} {i : Int} {v : xV} {g : xG} {t : xD} (h0 : g.2.1 0 = (20, 0)) (h : xald kd a i g t = some v) : xald kd a i (xrb L g) (xrt L xs t) = some v := by
  have hz : a ≠ 0 := fun e => by
    unfold xald at h
    rw [e, h0] at h
    rw [if_neg (fun w => absurd w.2 (Nat.not_lt_zero _))] at h
    cases h
  unfold xald at h ⊢
  rw [xrb_ne hz, xrt_ne hz]
  exact h
theorem xast_rb {L : Nat} {xs : Nat → Int32} {kd a : Nat} {i : Int} {v : xV} {g : xG} {t : xD} {w : xG × xD} (h0 : g.2.1 0 = (20, 0)) (h : xast kd a i v g t = some w) : xast kd a i v (xrb L g) (xrt L xs t) = some (xrb L w.1, xrt L xs w.2) ∧ w.1.2.1 0 = (20, 0) := by
  unfold xast at h ⊢
  by_cases h1 : 0 ≤ i ∧ i.toNat < (g.2.1 a).2 ∧ 2 ≤ a
  · have hz : a ≠ 0 := by omega
    rw [if_pos h1] at h
    rw [xrb_ne hz, if_pos h1]
    by_cases h2 : kd = 23
    · rw [if_pos h2] at h ⊢
      by_cases h3 : v.1 = 2 ∧ 0 ≤ v.2 ∧ 23 ≤ (g.2.1 a).1 ∧ (g.2.1 a).1 ≤ 25 ∧ xobj g v.2.toNat (xrowc (g.2.1 a).1) 0
      · rw [if_pos h3] at h
        obtain ⟨-, ho⟩ := xobj_rb (L := L) h0 h3.2.2.2.2
        rw [if_pos ⟨h3.1, h3.2.1, h3.2.2.1, h3.2.2.2.1, ho⟩]
        cases h
        exact ⟨rfl, h0⟩
      · rw [if_neg h3] at h; cases h
    · rw [if_neg h2] at h ⊢
      by_cases h3 : (g.2.1 a).1 = kd ∧ v.1 = (if kd = 21 then 1 else 0)
      · rw [if_pos h3] at h ⊢
        cases h
        exact ⟨by rw [xrt_upd hz], h0⟩
      · rw [if_neg h3] at h; cases h
  · rw [if_neg h1] at h; cases h
set_option maxHeartbeats 4000000 in
theorem xstep_rb {L : Nat} {xs : Nat → Int32} {d mi len pc : Nat} {o : xOp} {ls st : List xV} {g : xG} {t : xD} {z : xSt} (h0 : g.2.1 0 = (20, 0)) (h19 : ¬ o.1 = 19) (h : xstep d mi len o pc ls st g t = some z) : xstep d mi len o pc ls st (xrb L g) (xrt L xs t) = some (z.1, z.2.1, z.2.2.1, xrb L z.2.2.2.1, xrt L xs z.2.2.2.2) ∧ z.2.2.2.1.2.1 0 = (20, 0) := by
  unfold xstep at h ⊢
  split at h
  · cases h; exact ⟨rfl, h0⟩
  · obtain ⟨v, a1, a2, rfl⟩ := xs1_inv h
    exact ⟨by unfold xs1; rw [a1]; exact if_pos a2, h0⟩
  · obtain ⟨v, r, rfl, a1, a2, rfl⟩ := xs2_inv h
    exact ⟨by unfold xs2; exact if_pos ⟨a1, a2⟩, h0⟩
  · obtain ⟨x, a1, rfl⟩ := xs3_inv h
    exact ⟨by unfold xs3; rw [a1]; exact if_pos rfl, h0⟩
  · obtain ⟨y, x, r, w, rfl, a1, rfl⟩ := xs4_inv h
    exact ⟨by unfold xs4; simp only [a1], h0⟩
  · obtain ⟨v, r, w, rfl, a1, rfl⟩ := xs5_inv h
    exact ⟨by unfold xs5; simp only [a1], h0⟩
  · obtain ⟨b, y, x, r, w, rfl, a1, a2, rfl⟩ := xs6_inv h
    exact ⟨by unfold xs6; simp only [if_pos a1, a2], h0⟩
  · obtain ⟨x, r, rfl, rfl⟩ := xs7_inv h
    exact ⟨rfl, h0⟩
  · obtain ⟨y, x, r, rfl, rfl⟩ := xs8_inv h
    exact ⟨rfl, h0⟩
  · cases h; exact ⟨rfl, h0⟩
  · obtain ⟨x, r, rfl, w⟩ := xs10_inv h
    rcases w with ⟨a1, rfl⟩ | ⟨a1, w, a2, rfl⟩
    · exact ⟨by unfold xs10; exact if_pos a1, h0⟩
    · exact ⟨by unfold xs10; simp only [if_neg a1, a2], h0⟩
  · obtain ⟨v, r, rfl, a1, rfl⟩ := xs11_inv h
    exact ⟨if_neg a1, h0⟩
  · obtain ⟨v, r, rfl, a1, rfl⟩ := xs12_inv h
    exact ⟨if_neg a1, h0⟩
  · obtain ⟨v, w, r, rfl, a1, rfl⟩ := xs13_inv h
    exact ⟨if_neg a1, h0⟩
  · obtain ⟨v, w, r, rfl, a1, rfl⟩ := xs14_inv h
    exact ⟨if_neg a1, h0⟩
  · obtain ⟨a, r, rfl, a1, rfl⟩ := xs15_inv h
    obtain ⟨hz, ho⟩ := xobj_rb (L := L) h0 a1
    refine ⟨?_, h0⟩
    unfold xs15
    simp only [if_pos ho, xslot_rb hz]
  · obtain ⟨v, a, r, w, rfl, a1, rfl⟩ := xs16_inv h
    obtain ⟨a2, a3⟩ := xput_rb (L := L) (xs := xs) h0 a1
    exact ⟨by unfold xs16; simp only [a2], a3⟩
  · obtain ⟨i, a, r, v, rfl, a1, rfl⟩ := xs17_inv h
    exact ⟨by unfold xs17; simp only [xald_rb h0 a1], h0⟩
  · obtain ⟨v, i, a, r, w, rfl, a1, rfl⟩ := xs18_inv h
    obtain ⟨a2, a3⟩ := xast_rb (L := L) (xs := xs) h0 a1
    exact ⟨by unfold xs18; simp only [a2], a3⟩
  · rename_i e; exact absurd e h19
  · cases h
    refine ⟨by rw [xrb_new]; rfl, ?_⟩
    exact (if_neg (t := (o.2.1, xfsz o.2.1)) (show ¬ (0 = g.1.1 + 2) by omega)).trans h0
  · obtain ⟨n, r, rfl, a1, rfl⟩ := xs21_inv h
    refine ⟨by rw [xrb_new]; unfold xs21; exact if_pos a1, ?_⟩
    exact (if_neg (t := (o.2.1, n)) (show ¬ (0 = g.1.1 + 2) by omega)).trans h0
  · obtain ⟨n, r, rfl, a1, rfl⟩ := xs21_inv h
    refine ⟨by rw [xrb_new]; unfold xs21; exact if_pos a1, ?_⟩
    exact (if_neg (t := (o.2.1, n)) (show ¬ (0 = g.1.1 + 2) by omega)).trans h0
  · obtain ⟨k, n, r, rfl, a1, rfl⟩ := xs23_inv h
    refine ⟨by rw [xrb_new2]; unfold xs23; exact if_pos a1, ?_⟩
    exact ((if_neg (t := (26, n)) (show ¬ (0 = g.1.1 + 2) by omega)).trans (if_neg (t := (20, k)) (show ¬ (g.1.1 + 2 < 0 ∧ 0 ≤ g.1.1 + 2 + n) by omega))).trans h0
  · obtain ⟨n, dp, a, sp, b, r, rfl, a1, rfl⟩ := xs26_inv h
    have ha : a ≠ 0 := by omega
    have hb : b ≠ 0 := by omega
    refine ⟨?_, h0⟩
    rw [xrt_cpy ha hb]
    unfold xs26
    simp only [xrb_ne ha, xrb_ne hb]
    exact if_pos a1
  · obtain ⟨a, r, rfl, a1, rfl⟩ := xs27_inv h
    exact ⟨if_pos a1, h0⟩
  · cases h; exact ⟨rfl, h0⟩
  · cases h
theorem xno19 : (List.range 202).all (fun mi => (List.range (xlen mi)).all (fun pc => match xcode mi pc with
  | some e => !(Nat.beq e.2.1 19)
  | none => true)) = true := by decide +kernel
theorem xno19_of {mi pc len j : Nat} {i : Instr} {o : xOp} (hm : mi < 202) (hc : xcode mi pc = some ((i, len, j), o)) : ¬ o.1 = 19 := by
  have h1 : pc < xlen mi := by
    unfold xcode at hc
    cases hb : (Nat.blt mi 203 && Nat.blt pc (xlen mi)) with
    | false => rw [hb] at hc; cases hc
    | true =>
      simp only [Bool.and_eq_true] at hb
      exact Nat.blt_eq.mp hb.2
  have h2 := List.all_eq_true.mp (List.all_eq_true.mp xno19 mi (List.mem_range.mpr hm)) pc (List.mem_range.mpr h1)
  rw [hc] at h2
  intro e
  simp only [e] at h2
  exact absurd h2 (by decide)
theorem xrecv_rb {L k ci : Nat} {as : List xV} {g : xG} (h0 : g.2.1 0 = (20, 0)) (h : xrecvb k ci as g = true) : xrecvb k ci as (xrb L g) = true := by
  unfold xrecvb at h ⊢
  split at h
  · rename_i a _
    simp only [Bool.and_eq_true, decide_eq_true_eq] at h ⊢
    exact (xobj_rb (L := L) (k := 0) h0 h).2
  · cases h
  · rfl
  · rfl
  · cases h
theorem xrun_rb (L : Nat) (xs : Nat → Int32) : ∀ (n d mi pc : Nat) (ls st : List xV) (g : xG) (t : xD) (r : Option xV) (g' : xG) (t' : xD), mi < 202 → g.2.1 0 = (20, 0) → xrun n d mi pc ls st g t = some (r, g', t') → xrun n d mi pc ls st (xrb L g) (xrt L xs t) = some (r, xrb L g', xrt L xs t') ∧ g'.2.1 0 = (20, 0)
  | 0, _, _, _, _, _, _, _, _, _, _, _, _, h => by cases h
  | n + 1, d, mi, pc, ls, st, g, t, r, g', t', hmi, h0, h => by
    have ih := xrun_rb L xs n
    rw [xrun_succ] at h ⊢
    obtain ⟨i, len, j, o, hc, hh⟩ := xgo_inv h
    rcases hh with ⟨h25, r2, hret, e⟩ | ⟨h24, hm, hmath⟩ | ⟨h24, hm, hcal⟩ | ⟨n25, n24, z, hs, hi⟩
    · cases e
      exact ⟨xgo_ret hc h25 hret, h0⟩
    · obtain ⟨d', rfl, hx⟩ := xmath_inv hmath
      rcases hx with ⟨ho, y, x, r3, rfl, h8, hi⟩ | ⟨ho, x, r3, rfl, h8, hi⟩
      · obtain ⟨a1, a2⟩ := ih _ _ _ _ _ _ _ _ _ _ hmi h0 hi
        exact ⟨xgo_math hc h24 hm (xmath_min ho h8 a1), a2⟩
      · obtain ⟨a1, a2⟩ := ih _ _ _ _ _ _ _ _ _ _ hmi h0 hi
        exact ⟨xgo_math hc h24 hm (xmath_abs ho h8 a1), a2⟩
    · obtain ⟨d', as, r3, v, g1, t1, rfl, rfl, hlen, h8, hsp, hrec, h1, h2⟩ := xcal_inv hcal
      obtain ⟨y', hy', hdg, hchk, -⟩ := xcode_ok hc
      obtain ⟨u, hu, hu1, hu2, -, -⟩ := xchk_call hchk h24
      have hcm : o.2.1 < 202 := by rw [hu2]; exact xLT_ok u (List.mem_of_getElem? hu)
      obtain ⟨a1, a2⟩ := ih _ _ _ _ _ _ _ _ _ _ hcm h0 h1
      obtain ⟨b1, b2⟩ := ih _ _ _ _ _ _ _ _ _ _ hmi a2 h2
      exact ⟨xgo_call hc h24 hm hlen h8 hsp (xrecv_rb h0 hrec) a1 b1, b2⟩
    · obtain ⟨a1, a2⟩ := xstep_rb (L := L) (xs := xs) h0 (xno19_of hmi hc) hs
      obtain ⟨b1, b2⟩ := ih _ _ _ _ _ _ _ _ _ _ hmi a2 hi
      exact ⟨xgo_step hc n25 n24 a1 b1, b2⟩
