/-! THE CLASS: STEPS, BREAKDOWN -/
theorem c_takeSteps {d : Nat} {g : xG} {t m : xD} {s : Nat} {x y : Int} (L : xLay g) (hs : s < 3) (hI : Inv m) (hR : Rep t s m) (hx : 0 ≤ x ∧ x ≤ 1) (h0 : 0 ≤ y) (h1 : y ≤ 20) : xCall (d + 4) 51 [(2, (((5 + 89 * s) : Nat) : Int)), (0, x), (0, y)] g t (zQ s g t (some (0, (((tSt x y.toNat m).1 : Nat) : Int)), (tSt x y.toNat m).2)) := by
  show xOk (d + 4) 51 0 [(2, (((5 + 89 * s) : Nat) : Int)), (0, x), (0, y), (3, 0)] [] g t _
  refine xk_push rfl (p := 1) rfl ?_
  refine xk_store rfl (p := 2) rfl (by decide) (Nat.le_of_ble_eq_true rfl) (ls' := [(2, (((5 + 89 * s) : Nat) : Int)), (0, x), (0, y), (0, 0)]) rfl ?_
  have lp1 : ∀ k : Nat, k ≤ y.toNat → ∀ (m1 : xD) (u1 : xD), (Rep u1 s m1) → (Inv m1) → (Fr s t u1) → (tSt x y.toNat m = (k + (tSt x (y.toNat - k) m1).1, (tSt x (y.toNat - k) m1).2)) → xOk (d + 4) 51 2 [(2, (((5 + 89 * s) : Nat) : Int)), (0, x), (0, y), (0, ((k : Nat) : Int))] [] g u1 (zQ s g t (some (0, (((tSt x y.toNat m).1 : Nat) : Int)), (tSt x y.toNat m).2)) := by
    refine xk_up (y.toNat) (fun k hkk ih1  m1 u1 h1_1 h1_2 h1_3 h1_4 => ?_)
    refine xk_load rfl (p := 3) rfl rfl ?_
    refine xk_load rfl (p := 4) rfl rfl ?_
    refine xk_icmp rfl (p := 7) rfl (fun c4_2 => ?_) (fun c4_2 => ?_)
    · replace c4_2 : y ≤ ((k : Nat) : Int) := c4_2
      refine xk_load rfl (p := 36) rfl rfl ?_
      refine xk_ret rfl (rfl) ?_
      exact zRet (show (some ((0, (((tSt x y.toNat m).1 : Nat) : Int)) : xV), (tSt x y.toNat m).2) = (some (0, ((k : Nat) : Int)), m1) from by rw [h1_4, show y.toNat - k = 0 by omega]; rfl) h1_1 h1_3
    · replace c4_2 : ¬ (y ≤ ((k : Nat) : Int)) := c4_2
      refine xk_load rfl (p := 8) rfl rfl ?_
      refine xk_push rfl (p := 9) rfl ?_
      refine xk_icmp rfl (p := 12) rfl (fun c9_3 => ?_) (fun c9_3 => ?_)
      · replace c9_3 : ¬ (x = 1) := c9_3
        refine xk_load rfl (p := 23) rfl rfl ?_
        refine xk_call rfl (p := 26) rfl (by decide) rfl (Nat.le_of_ble_eq_true rfl) (Nat.le_of_ble_eq_true rfl) (xrv (ly_st L hs) (by decide)) (as := [(2, (((5 + 89 * s) : Nat) : Int))]) (r := []) rfl (c_stepOfDeal L hs h1_2 h1_1) ?_
        rintro _ g v2 ⟨rfl, rfl, hV2, hF2⟩
        have eg_ : tGo x m1 = tCom m1 := if_pos (by omega)
        refine xk_if rfl (p := 29) rfl (fun c26_4 => ?_) (fun c26_4 => ?_)
        · replace c26_4 : (tCom m1).1 = 0 := c26_4
          refine xk_load rfl (p := 36) rfl rfl ?_
          refine xk_ret rfl (rfl) ?_
          have e0 : (tGo x m1).1 = 0 := by rw [eg_]; assumption
          exact zRet (show (some ((0, (((tSt x y.toNat m).1 : Nat) : Int)) : xV), (tSt x y.toNat m).2) = (some (0, ((k : Nat) : Int)), m1) from by rw [h1_4, show y.toNat - k = (y.toNat - (k + 1)) + 1 by omega, tSt_s0 e0]; rfl) (by rw [← tGo_0 e0, eg_]; exact hV2) (h1_3.tr hF2)
        · replace c26_4 : ¬ ((tCom m1).1 = 0) := c26_4
          refine xk_inc1 rfl (p := 32) rfl (n := k) rfl (by omega) (ls' := [(2, (((5 + 89 * s) : Nat) : Int)), (0, x), (0, y), (0, ((k + 1 : Nat) : Int))]) rfl ?_
          refine xk_goto rfl ?_
          exact ih1 (by omega) ((tGo x m1).2) v2 (by rw [eg_]; exact hV2) (by exact h1_2.go) (by exact h1_3.tr hF2) (by rw [h1_4, show y.toNat - k = (y.toNat - (k + 1)) + 1 by omega, tSt_s1 (show ¬ (tGo x m1).1 = 0 by rw [eg_]; assumption)]; exact Prod.ext (by show k + (_ + 1) = k + 1 + _; omega) rfl)
      · replace c9_3 : x = 1 := Decidable.not_not.mp c9_3
        refine xk_load rfl (p := 13) rfl rfl ?_
        refine xk_call rfl (p := 16) rfl (by decide) rfl (Nat.le_of_ble_eq_true rfl) (Nat.le_of_ble_eq_true rfl) (xrv (ly_st L hs) (by decide)) (as := [(2, (((5 + 89 * s) : Nat) : Int))]) (r := []) rfl (c_stepOfRepack L hs h1_2 h1_1) ?_
        rintro _ g v2 ⟨rfl, rfl, hV2, hF2⟩
        have eg_ : tGo x m1 = tRep m1 := if_neg (by omega)
        refine xk_if rfl (p := 19) rfl (fun c16_5 => ?_) (fun c16_5 => ?_)
        · replace c16_5 : (tRep m1).1 = 0 := c16_5
          refine xk_load rfl (p := 36) rfl rfl ?_
          refine xk_ret rfl (rfl) ?_
          have e0 : (tGo x m1).1 = 0 := by rw [eg_]; assumption
          exact zRet (show (some ((0, (((tSt x y.toNat m).1 : Nat) : Int)) : xV), (tSt x y.toNat m).2) = (some (0, ((k : Nat) : Int)), m1) from by rw [h1_4, show y.toNat - k = (y.toNat - (k + 1)) + 1 by omega, tSt_s0 e0]; rfl) (by rw [← tGo_0 e0, eg_]; exact hV2) (h1_3.tr hF2)
        · replace c16_5 : ¬ ((tRep m1).1 = 0) := c16_5
          refine xk_goto rfl ?_
          refine xk_inc1 rfl (p := 32) rfl (n := k) rfl (by omega) (ls' := [(2, (((5 + 89 * s) : Nat) : Int)), (0, x), (0, y), (0, ((k + 1 : Nat) : Int))]) rfl ?_
          refine xk_goto rfl ?_
          exact ih1 (by omega) ((tGo x m1).2) v2 (by rw [eg_]; exact hV2) (by exact h1_2.go) (by exact h1_3.tr hF2) (by rw [h1_4, show y.toNat - k = (y.toNat - (k + 1)) + 1 by omega, tSt_s1 (show ¬ (tGo x m1).1 = 0 by rw [eg_]; assumption)]; exact Prod.ext (by show k + (_ + 1) = k + 1 + _; omega) rfl)
  exact lp1 0 (by omega) m t (by exact hR) (by exact hI) (by exact Fr.rf) (by exact Prod.ext (Nat.zero_add _).symm rfl)

theorem c_step {d : Nat} {g : xG} {t m : xD} {x y : Int} (L : xLay g) (hI : Inv m) (hR : Rep t 0 m) : xCall (d + 5) 83 [(2, ((2 : Nat) : Int)), (0, x), (0, y)] g t (zQ 0 g t (y_step m x y)) := by
  show xOk (d + 5) 83 0 [(2, ((2 : Nat) : Int)), (0, x), (0, y)] [] g t _
  have iNn_ := iNn hI
  have hs : 0 < 3 := by decide
  have hs1 : 1 < 3 := by decide
  have hs2 : 2 < 3 := by decide
  refine xk_load rfl (p := 1) rfl rfl ?_
  refine xk_if rfl (p := 4) rfl (fun c1_1 => ?_) (fun c1_1 => ?_)
  · replace c1_1 : x < 0 := c1_1
    refine xk_push rfl (p := 10) rfl ?_
    refine xk_ret rfl (rfl) ?_
    exact zRet (show y_step m x y = (some (0, (-1)), m) from (by unfold y_step; (repeat' split) <;> first | rfl | (exfalso; omega) | (congr 1; omega))) hR Fr.rf
  · replace c1_1 : ¬ (x < 0) := c1_1
    refine xk_load rfl (p := 5) rfl rfl ?_
    refine xk_push rfl (p := 6) rfl ?_
    refine xk_icmp rfl (p := 9) rfl (fun c6_2 => ?_) (fun c6_2 => ?_)
    · replace c6_2 : x < 2 := c6_2
      refine xk_load rfl (p := 12) rfl rfl ?_
      refine xk_if rfl (p := 15) rfl (fun c12_3 => ?_) (fun c12_3 => ?_)
      · replace c12_3 : y < 0 := c12_3
        refine xk_push rfl (p := 23) rfl ?_
        refine xk_ret rfl (rfl) ?_
        exact zRet (show y_step m x y = (some (0, (-2)), m) from (by unfold y_step; (repeat' split) <;> first | rfl | (exfalso; omega) | (congr 1; omega))) hR Fr.rf
      · replace c12_3 : ¬ (y < 0) := c12_3
        refine xk_load rfl (p := 16) rfl rfl ?_
        refine xk_push rfl (p := 18) rfl ?_
        refine xk_icmp rfl (p := 21) rfl (fun c18_4 => ?_) (fun c18_4 => ?_)
        · replace c18_4 : y ≤ 20 := c18_4
          refine xk_load rfl (p := 25) rfl rfl ?_
          refine xk_getf rfl (p := 28) rfl (xob (ly_x L) (by decide)) (v := (2, (((5 + 89 * 0) : Nat) : Int))) (xsl2 rfl (ly_x1 L)) ?_
          refine xk_load rfl (p := 29) rfl rfl ?_
          refine xk_load rfl (p := 30) rfl rfl ?_
          refine xk_call rfl (p := 33) rfl (by decide) rfl (Nat.le_of_ble_eq_true rfl) (Nat.le_of_ble_eq_true rfl) (xrv (ly_st L hs) (by decide)) (as := [(2, (((5 + 89 * 0) : Nat) : Int)), (0, x), (0, y)]) (r := []) rfl (c_takeSteps L hs hI hR (by omega) (by omega) (by omega)) ?_
          rintro _ g v8 ⟨rfl, rfl, hV8, hF8⟩
          refine xk_ret rfl (rfl) ?_
          exact zRet ((if_pos (by omega)).trans (if_pos (by omega))) hV8 hF8
        · replace c18_4 : ¬ (y ≤ 20) := c18_4
          refine xk_push rfl (p := 23) rfl ?_
          refine xk_ret rfl (rfl) ?_
          exact zRet (show y_step m x y = (some (0, (-2)), m) from (by unfold y_step; (repeat' split) <;> first | rfl | (exfalso; omega) | (congr 1; omega))) hR Fr.rf
    · replace c6_2 : ¬ (x < 2) := c6_2
      refine xk_push rfl (p := 10) rfl ?_
      refine xk_ret rfl (rfl) ?_
      exact zRet (show y_step m x y = (some (0, (-1)), m) from (by unfold y_step; (repeat' split) <;> first | rfl | (exfalso; omega) | (congr 1; omega))) hR Fr.rf

theorem cLeft_0 {m : xD} (hI : Inv m) (h : sRec m = 1) : cLeft m = m 301 (sCom m).toNat + 2 - m 292 13 ∧ 1 ≤ cLeft m ∧ cLeft m ≤ 6 := by
  have r := sRec_c (m := m)
  have hc : ¬ sCom m = -1 ∧ 0 < m 292 13 := by omega
  have a := sRec_1 hc.1 hc.2
  have d := sCom_done hI
  have rg := sCom_rng (m := m)
  unfold cLeft
  rw [a.1, a.2]
  (repeat' split) <;> omega
theorem tGo0 {m : xD} : tGo 0 m = tCom m := if_pos rfl
/-- steps till no deal is committing: more make no odds -/
theorem tSt_end : ∀ (n : Nat) {m : xD}, Inv m → sRec m = 1 → cLeft m = ((n : Nat) : Int) → ∀ j, n ≤ j → (tSt 0 j m).2 = (tSt 0 n m).2 ∧ sCom (tSt 0 n m).2 = -1
  | 0, m, hI, hr, hl => fun j hj => by
    have := cLeft_0 hI hr
    omega
  | n + 1, m, hI, hr, hl => fun j hj => by
    have cl := cLeft_0 hI hr
    have r := sRec_c (m := m)
    have d := sCom_done hI
    have hc : ¬ sCom m = -1 ∧ 0 < m 292 13 := by omega
    obtain ⟨j, rfl⟩ : ∃ i, j = i + 1 := ⟨j - 1, by omega⟩
    have g1 : ¬ (tGo 0 m).1 = 0 := by
      rw [tGo0]
      unfold tCom
      rw [if_neg hc.1]
      split
      · exact (by decide : ¬ (1 : Int) = 0)
      · rw [if_neg (by omega)]
        exact (by decide : ¬ (1 : Int) = 0)
    rw [tSt_s1 g1, tSt_s1 g1]
    show (tSt 0 j (tGo 0 m).2).2 = (tSt 0 n (tGo 0 m).2).2 ∧ sCom (tSt 0 n (tGo 0 m).2).2 = -1
    have hI2 : Inv (tGo 0 m).2 := hI.go
    by_cases c2 : m 301 (sCom m).toNat < m 292 13
    · -- the last one
      have e : (tGo 0 m).2 = xupd (xupd (xupd m 300 (sCom m).toNat 0) 292 6 (xadd (m 292 6) 1)) 292 13 (m 292 13 + 1) := by
        rw [tGo0]
        unfold tCom
        rw [if_neg hc.1, if_pos c2]
      have rg := sCom_rng (m := m)
      have hz : sCom (tGo 0 m).2 = -1 := by
        rw [e]
        refine sCom_nop (fun b hb hh => ?_)
        have h1 : 0 < xupd m 300 (sCom m).toNat 0 300 b := hh.1
        rw [xupd_c] at h1
        by_cases cb : b = (sCom m).toNat
        · rw [if_pos cb] at h1
          exact absurd h1 (by decide)
        · rw [if_neg cb] at h1
          have := sCom_one hI hb ⟨h1, hh.2⟩
          omega
      have stay : ∀ i, (tSt 0 i (tGo 0 m).2).2 = (tGo 0 m).2 := by
        intro i
        cases i with
        | zero => rfl
        | succ i =>
          rw [tSt_s0 (by rw [tGo0, tCom_e hz])]
      rw [stay, stay]
      exact ⟨rfl, hz⟩
    · have e : (tGo 0 m).2 = xupd (tApp m (sCom m).toNat (m 292 13 - 1).toNat) 292 13 (m 292 13 + 1) := by
        rw [tGo0]
        unfold tCom
        rw [if_neg hc.1, if_neg c2, if_neg (by omega)]
      have hz : sCom (tGo 0 m).2 = sCom m := by
        rw [e]
        exact tApp_com
      have hd : (tGo 0 m).2 292 13 = m 292 13 + 1 := by
        rw [e]
        exact xupd_eq
      have hk : (tGo 0 m).2 301 (sCom m).toNat = m 301 (sCom m).toNat := by
        rw [e]
        exact (xupd_ne (by omega)).trans (tApp_kp 301 _ (by decide))
      have hr2 : sRec (tGo 0 m).2 = 1 := (sRec_1 (by rw [hz]; exact hc.1) (by rw [hd]; omega)).1
      have cl2 := (cLeft_0 hI2 hr2).1
      rw [hz, hd, hk] at cl2
      exact tSt_end n hI2 hr2 (by omega) j (by omega)
/-- a deal is killed -/
theorem Rep.kill {t m : xD} {s k : Nat} (h : Rep t s (tKl m k)) (hI : Inv m) (hz : sCom m = -1 ∨ m 292 13 ≤ 0) (hk : k < 4) : Rep (xupd t (78 + 89 * s + 4 * k) 5 (-1)) s (tKl m (k + 1)) := by
  have hIk : ∀ j, Inv (tKl m j) := fun j => by
    have e : ∀ i, 0 < tKl m j 300 i → 0 < m 300 i := fun i hi => by
      unfold tKl at hi
      by_cases c : i < j
      · rw [if_pos ⟨rfl, c⟩] at hi
        exact absurd hi (by decide)
      · rw [if_neg (by omega)] at hi
        exact hi
    refine ⟨hI.1, hI.2.1, hI.2.2.1, fun i hi => ?_, fun i r hi hh => hI.2.2.2.2.1 i r hi (e i hh), fun i r q hi hh => hI.2.2.2.2.2.1 i r q hi (e i hh), fun a b ha hb h1 h2 => hI.2.2.2.2.2.2.1 a b ha hb ⟨e a h1.1, h1.2⟩ ⟨e b h2.1, h2.2⟩, fun i hi h1 => hI.2.2.2.2.2.2.2.1 i hi ⟨e i h1.1, h1.2⟩, hI.2.2.2.2.2.2.2.2⟩
    have := iD hI hi
    show 0 ≤ tKl m j 300 i ∧ tKl m j 300 i ≤ 4 ∧ _
    unfold tKl
    by_cases c : i < j
    · rw [if_pos ⟨rfl, c⟩]
      exact ⟨Int.le_refl 0, by decide, this.2.2⟩
    · rw [if_neg (by omega)]
      exact this
  have zz : ∀ j, sRec (tKl m j) = 0 ∧ sApp (tKl m j) = 0 := fun j => sRec_0 (by
    rcases hz with hz | hz
    · refine .inl (sCom_nop (fun e he hh => ?_))
      have h1 : 0 < tKl m j 300 e := hh.1
      unfold tKl at h1
      by_cases c : e < j
      · rw [if_pos ⟨rfl, c⟩] at h1
        exact absurd h1 (by decide)
      · rw [if_neg (by omega)] at h1
        exact xix_no (P := fun d => 0 < m 300 d ∧ m 302 d = 2) (K := 4) hz e he ⟨h1, hh.2⟩
    · exact .inr hz)
  refine h.deal (hIk k) hk (fun a j hh => xupd_ne (by omega)) (fun a j hh => ?_) ((zz (k + 1)).1.trans (zz k).1.symm) ((zz (k + 1)).2.trans (zz k).2.symm) ⟨xupd_eq.trans (Eq.symm (if_pos (if_pos ⟨rfl, by omega⟩))), fun hh => ?_⟩
  · unfold tKl
    by_cases c : a = 300 ∧ j < k
    · rw [if_pos c, if_pos (show a = 300 ∧ j < k + 1 from ⟨c.1, by omega⟩)]
    · rw [if_neg c, if_neg (show ¬ (a = 300 ∧ j < k + 1) by omega)]
  · have : tKl m (k + 1) 300 k = 0 := if_pos ⟨rfl, by omega⟩
    omega
theorem Inv.kl {m : xD} (h : Inv m) : Inv (tKl m 4) := h.kil
/-- a step more, taken first -/
theorem tSt_go (n : Nat) (m : xD) : (tSt 0 (n + 1) m).2 = (tSt 0 n (tGo 0 m).2).2 := by
  by_cases e : (tGo 0 m).1 = 0
  · rw [tSt_s0 e, tGo_0 e]
    cases n with
    | zero => rfl
    | succ n => rw [tSt_s0 e]
  · rw [tSt_s1 e]
theorem c_breakDown {d : Nat} {g : xG} {t m : xD} {s : Nat} (L : xLay g) (hs : s < 3) (hI : Inv m) (hR : Rep t s m) : xCall (d + 4) 58 [(2, (((5 + 89 * s) : Nat) : Int))] g t (zQ s g t (y_crash m)) := by
  show xOk (d + 4) 58 0 [(2, (((5 + 89 * s) : Nat) : Int)), (3, 0), (3, 0)] [] g t _
  have iNn_ := iNn hI
  have rec_ := sRec_c (m := m)
  refine xk_load rfl (p := 1) rfl rfl ?_
  refine xk_callp rfl (p := 4) rfl (by decide) rfl (Nat.le_of_ble_eq_true rfl) (Nat.le_of_ble_eq_true rfl) (xrv (ly_st L hs) (by decide)) (as := [(2, (((5 + 89 * s) : Nat) : Int))]) (r := []) rfl (v := (0, ((xbs (fun i => decide (0 < m 300 i)) (4) : Nat) : Int))) (c_allDeals L hs hI hR) ?_
  have xbs_ := xbs_lt (p := fun i => decide (0 < m 300 i)) (K := 4) (by omega)
  refine xk_callp rfl (p := 7) rfl (by decide) rfl (Nat.le_of_ble_eq_true rfl) (Nat.le_of_ble_eq_true rfl) (rfl) (as := [(0, ((xbs (fun i => decide (0 < m 300 i)) (4) : Nat) : Int))]) (r := []) rfl (v := (0, ((sBc (xbs (fun i => decide (0 < m 300 i)) (4)) : Nat) : Int))) (n_bitCount (xbs_lt (by omega))) ?_
  refine xk_store rfl (p := 8) rfl (by decide) (Nat.le_of_ble_eq_true rfl) (ls' := [(2, (((5 + 89 * s) : Nat) : Int)), (0, ((sBc (xbs (fun i => decide (0 < m 300 i)) (4)) : Nat) : Int)), (3, 0)]) rfl ?_
  refine xk_load rfl (p := 9) rfl rfl ?_
  refine xk_getf rfl (p := 12) rfl (xob (ly_st L hs) (by decide)) (v := (0, sRec m)) (xsl0 rfl (rRec hR)) ?_
  refine xk_if rfl (p := 15) rfl (fun c12_1 => ?_) (fun c12_1 => ?_)
  · replace c12_1 : sRec m = 0 := c12_1
    refine xk_push rfl (p := 23) rfl ?_
    refine xk_store rfl (p := 24) rfl (by decide) (Nat.le_of_ble_eq_true rfl) (ls' := [(2, (((5 + 89 * s) : Nat) : Int)), (0, ((sBc (xbs (fun i => decide (0 < m 300 i)) (4)) : Nat) : Int)), (0, 0)]) rfl ?_
    refine xk_load rfl (p := 25) rfl rfl ?_
    refine xk_if rfl (p := 28) rfl (fun c25_2 => ?_) (fun c25_2 => absurd (show (0 : Int) ≤ (0 : Int) by decide) c25_2)
    refine xk_push rfl (p := 40) rfl ?_
    refine xk_store rfl (p := 41) rfl (by decide) (Nat.le_of_ble_eq_true rfl) (ls' := [(2, (((5 + 89 * s) : Nat) : Int)), (0, ((sBc (xbs (fun i => decide (0 < m 300 i)) (4)) : Nat) : Int)), (0, 0)]) rfl ?_
    have lp3 : ∀ k : Nat, k ≤ 4 → ∀ (u1 : xD), (Rep u1 s (tKl m k)) → (Fr s t u1) → xOk (d + 4) 58 41 [(2, (((5 + 89 * s) : Nat) : Int)), (0, ((sBc (xbs (fun i => decide (0 < m 300 i)) (4)) : Nat) : Int)), (0, ((k : Nat) : Int))] [] g u1 (zQ s g t (y_crash m)) := by
      refine xk_up 4 (fun k hkk ih3  u1 h1_1 h1_2 => ?_)
      refine xk_load rfl (p := 42) rfl rfl ?_
      refine xk_push rfl (p := 43) rfl ?_
      refine xk_icmp rfl (p := 46) rfl (fun c43_4 => ?_) (fun c43_4 => ?_)
      · replace c43_4 : 4 ≤ ((k : Nat) : Int) := c43_4
        refine xk_load rfl (p := 63) rfl rfl ?_
        refine xk_push rfl (p := 64) rfl ?_
        refine xk_putf rfl (p := 67) rfl (xob (ly_st L hs) (by decide)) rfl (by decide) (by decide) (fun _ => by simp) (by omega) ?_
        refine xk_load rfl (p := 68) rfl rfl ?_
        refine xk_ret rfl (rfl) ?_
        rw [show k = 4 by omega] at h1_1
        exact zRet (show y_crash m = (some (0, ((sBc (xbs (fun i => decide (0 < m 300 i)) (4)) : Nat) : Int)), xupd (tKl m 4) 292 14 0) from by
          unfold y_crash tCr
          rw [show sDls m = sBc (xbs (fun i => decide (0 < m 300 i)) 4) from sBc_dls.symm, show (if sCom m = -1 then m else if m 292 13 ≤ 0 then m else (tSt 0 9 m).2) = m from by (repeat' split) <;> first | rfl | (exfalso; omega)]
          rfl) (h1_1.run hI.kl) (h1_2.up (by omega) (by omega))
      · replace c43_4 : ¬ (4 ≤ ((k : Nat) : Int)) := c43_4
        refine xk_load rfl (p := 47) rfl rfl ?_
        refine xk_getf rfl (p := 50) rfl (xob (ly_st L hs) (by decide)) (v := (2, (((7 + 89 * s) : Nat) : Int))) (xsl2 rfl (ly_s1 L hs)) ?_
        refine xk_load rfl (p := 51) rfl rfl ?_
        refine xk_ald rfl (p := 52) rfl (v := (2, (((78 + 89 * s + 4 * k) : Nat) : Int))) (xal2 (ly_sd L hs) (by decide) (show k < 4 by omega) (ly_de L hs (show k < 4 by omega))) ?_
        refine xk_push rfl (p := 53) rfl ?_
        refine xk_putf rfl (p := 56) rfl (xob ((ly_dl L hs (show k < 4 by omega)).1) (by decide)) rfl (by decide) (by decide) (fun h => absurd h (by decide)) (by omega) ?_
        refine xk_inc1 rfl (p := 59) rfl (n := k) rfl (by omega) (ls' := [(2, (((5 + 89 * s) : Nat) : Int)), (0, ((sBc (xbs (fun i => decide (0 < m 300 i)) (4)) : Nat) : Int)), (0, ((k + 1 : Nat) : Int))]) rfl ?_
        refine xk_goto rfl ?_
        exact ih3 (by omega)  (xupd u1 (78 + 89 * s + 4 * k) 5 (-1)) (by exact h1_1.kill hI (show sCom m = -1 ∨ m 292 13 ≤ 0 by omega) (by omega)) (by exact h1_2.up (by omega) (by omega))
    exact lp3 0 (by omega)  t (by rw [tKl_0]; exact hR) (by exact Fr.rf)
  · replace c12_1 : ¬ (sRec m = 0) := c12_1
    refine xk_load rfl (p := 16) rfl rfl ?_
    refine xk_callp rfl (p := 19) rfl (by decide) rfl (Nat.le_of_ble_eq_true rfl) (Nat.le_of_ble_eq_true rfl) (xrv (ly_st L hs) (by decide)) (as := [(2, (((5 + 89 * s) : Nat) : Int))]) (r := []) rfl (v := (0, cLeft m)) (c_stepsLeft L hs hI hR) ?_
    refine xk_goto rfl ?_
    refine xk_store rfl (p := 24) rfl (by decide) (Nat.le_of_ble_eq_true rfl) (ls' := [(2, (((5 + 89 * s) : Nat) : Int)), (0, ((sBc (xbs (fun i => decide (0 < m 300 i)) (4)) : Nat) : Int)), (0, cLeft m)]) rfl ?_
    have lp5 : ∀ j : Nat, j ≤ (cLeft m).toNat → ∀ (z : Int) (m1 : xD) (u2 : xD), (Rep u2 s m1) → (Inv m1) → (Fr s t u2) → (z = cLeft m - ((j : Nat) : Int)) → ((tSt 0 (cLeft m).toNat m).2 = (tSt 0 ((cLeft m).toNat - j) m1).2) → xOk (d + 4) 58 24 [(2, (((5 + 89 * s) : Nat) : Int)), (0, ((sBc (xbs (fun i => decide (0 < m 300 i)) (4)) : Nat) : Int)), (0, z)] [] g u2 (zQ s g t (y_crash m)) := by
      refine xk_up ((cLeft m).toNat) (fun j hkj ih5 z m1 u2 h2_1 h2_2 h2_3 h2_4 h2_5 => ?_)
      have cl_ := cLeft_0 hI (by omega)
      have en_ := tSt_end (cLeft m).toNat hI (by omega) (by omega) 9 (by omega)
      refine xk_load rfl (p := 25) rfl rfl ?_
      refine xk_if rfl (p := 28) rfl (fun c25_6 => ?_) (fun c25_6 => ?_)
      · replace c25_6 : z ≤ 0 := c25_6
        refine xk_push rfl (p := 40) rfl ?_
        refine xk_store rfl (p := 41) rfl (by decide) (Nat.le_of_ble_eq_true rfl) (ls' := [(2, (((5 + 89 * s) : Nat) : Int)), (0, ((sBc (xbs (fun i => decide (0 < m 300 i)) (4)) : Nat) : Int)), (0, 0)]) rfl ?_
        have lp7 : ∀ k : Nat, k ≤ 4 → ∀ (u1 : xD), (Rep u1 s (tKl m1 k)) → (Fr s t u1) → xOk (d + 4) 58 41 [(2, (((5 + 89 * s) : Nat) : Int)), (0, ((sBc (xbs (fun i => decide (0 < m 300 i)) (4)) : Nat) : Int)), (0, ((k : Nat) : Int))] [] g u1 (zQ s g t (y_crash m)) := by
          refine xk_up 4 (fun k hkk ih7  u1 h1_1 h1_2 => ?_)
          have em_ : (tSt 0 (cLeft m).toNat m).2 = m1 := h2_5.trans (congrArg (fun q => (tSt 0 q m1).2) (show (cLeft m).toNat - j = 0 by omega))
          have ez_ : sCom m1 = -1 := by rw [← em_]; exact en_.2
          refine xk_load rfl (p := 42) rfl rfl ?_
          refine xk_push rfl (p := 43) rfl ?_
          refine xk_icmp rfl (p := 46) rfl (fun c43_8 => ?_) (fun c43_8 => ?_)
          · replace c43_8 : 4 ≤ ((k : Nat) : Int) := c43_8
            refine xk_load rfl (p := 63) rfl rfl ?_
            refine xk_push rfl (p := 64) rfl ?_
            refine xk_putf rfl (p := 67) rfl (xob (ly_st L hs) (by decide)) rfl (by decide) (by decide) (fun _ => by simp) (by omega) ?_
            refine xk_load rfl (p := 68) rfl rfl ?_
            refine xk_ret rfl (rfl) ?_
            rw [show k = 4 by omega] at h1_1
            exact zRet (show y_crash m = (some (0, ((sBc (xbs (fun i => decide (0 < m 300 i)) (4)) : Nat) : Int)), xupd (tKl m1 4) 292 14 0) from by
              unfold y_crash tCr
              rw [show sDls m = sBc (xbs (fun i => decide (0 < m 300 i)) 4) from sBc_dls.symm, show (if sCom m = -1 then m else if m 292 13 ≤ 0 then m else (tSt 0 9 m).2) = m1 from by rw [if_neg (by omega), if_neg (by omega)]; exact en_.1.trans em_]
              rfl) (h1_1.run h2_2.kl) (h1_2.up (by omega) (by omega))
          · replace c43_8 : ¬ (4 ≤ ((k : Nat) : Int)) := c43_8
            refine xk_load rfl (p := 47) rfl rfl ?_
            refine xk_getf rfl (p := 50) rfl (xob (ly_st L hs) (by decide)) (v := (2, (((7 + 89 * s) : Nat) : Int))) (xsl2 rfl (ly_s1 L hs)) ?_
            refine xk_load rfl (p := 51) rfl rfl ?_
            refine xk_ald rfl (p := 52) rfl (v := (2, (((78 + 89 * s + 4 * k) : Nat) : Int))) (xal2 (ly_sd L hs) (by decide) (show k < 4 by omega) (ly_de L hs (show k < 4 by omega))) ?_
            refine xk_push rfl (p := 53) rfl ?_
            refine xk_putf rfl (p := 56) rfl (xob ((ly_dl L hs (show k < 4 by omega)).1) (by decide)) rfl (by decide) (by decide) (fun h => absurd h (by decide)) (by omega) ?_
            refine xk_inc1 rfl (p := 59) rfl (n := k) rfl (by omega) (ls' := [(2, (((5 + 89 * s) : Nat) : Int)), (0, ((sBc (xbs (fun i => decide (0 < m 300 i)) (4)) : Nat) : Int)), (0, ((k + 1 : Nat) : Int))]) rfl ?_
            refine xk_goto rfl ?_
            exact ih7 (by omega)  (xupd u1 (78 + 89 * s + 4 * k) 5 (-1)) (by exact h1_1.kill h2_2 (.inl ez_) (by omega)) (by exact h1_2.up (by omega) (by omega))
        exact lp7 0 (by omega)  u2 (by rw [tKl_0]; exact h2_1) (by exact h2_3)
      · replace c25_6 : ¬ (z ≤ 0) := c25_6
        refine xk_load rfl (p := 29) rfl rfl ?_
        refine xk_call rfl (p := 32) rfl (by decide) rfl (Nat.le_of_ble_eq_true rfl) (Nat.le_of_ble_eq_true rfl) (xrv (ly_st L hs) (by decide)) (as := [(2, (((5 + 89 * s) : Nat) : Int))]) (r := []) rfl (c_stepOfDeal L hs h2_2 h2_1) ?_
        rintro _ g v3 ⟨rfl, rfl, hV3, hF3⟩
        refine xk_pop rfl (p := 33) rfl (show ¬ (0 : Nat) = 1 by decide) ?_
        have e9 : xadd (z) (-1) = z - 1 := (xadd_r (by omega) (by omega)).trans (by omega)
        refine xk_iinc rfl (p := 36) rfl (x := z) rfl (ls' := [(2, (((5 + 89 * s) : Nat) : Int)), (0, ((sBc (xbs (fun i => decide (0 < m 300 i)) (4)) : Nat) : Int)), (0, (z - 1))]) (by rw [e9]; rfl) ?_
        clear e9
        refine xk_goto rfl ?_
        exact ih5 (by omega) (z - 1) ((tGo 0 m1).2) v3 (by rw [tGo0]; exact hV3) (by exact h2_2.go) (by exact h2_3.tr hF3) (by omega) (by exact h2_5.trans ((congrArg (fun q => (tSt 0 q m1).2) (show (cLeft m).toNat - j = ((cLeft m).toNat - (j + 1)) + 1 by omega)).trans (tSt_go _ _)))
    exact lp5 0 (by omega) (cLeft m) m t (by exact hR) (by exact hI) (by exact Fr.rf) (by omega) (by rw [Nat.sub_zero])

theorem c_crash {d : Nat} {g : xG} {t m : xD} (L : xLay g) (hI : Inv m) (hR : Rep t 0 m) : xCall (d + 5) 84 [(2, ((2 : Nat) : Int))] g t (zQ 0 g t (y_crash m)) := by
  show xOk (d + 5) 84 0 [(2, ((2 : Nat) : Int))] [] g t _
  have iNn_ := iNn hI
  have hs : 0 < 3 := by decide
  have hs1 : 1 < 3 := by decide
  have hs2 : 2 < 3 := by decide
  refine xk_load rfl (p := 1) rfl rfl ?_
  refine xk_getf rfl (p := 4) rfl (xob (ly_x L) (by decide)) (v := (2, (((5 + 89 * 0) : Nat) : Int))) (xsl2 rfl (ly_x1 L)) ?_
  refine xk_call rfl (p := 7) rfl (by decide) rfl (Nat.le_of_ble_eq_true rfl) (Nat.le_of_ble_eq_true rfl) (xrv (ly_st L hs) (by decide)) (as := [(2, (((5 + 89 * 0) : Nat) : Int))]) (r := []) rfl (c_breakDown L hs hI hR) ?_
  rintro _ g v9 ⟨rfl, rfl, hV9, hF9⟩
  refine xk_ret rfl (rfl) ?_
  exact zRet rfl hV9 hF9
