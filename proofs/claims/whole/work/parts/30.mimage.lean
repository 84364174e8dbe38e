/-! THE MODEL: IMAGE, UNDO, AFTER, ENDS -/
/-- what steps and crashes may change -/
def Sf (a k : Nat) : Prop := (a = 292 ∧ (k = 6 ∨ k = 13 ∨ k = 14 ∨ k = 15)) ∨ ((a = 296 ∨ a = 297 ∨ a = 298 ∨ a = 304) ∧ k < 12) ∨ (a = 299 ∧ k < 216) ∨ (a = 300 ∧ k < 4)
def Un (m u : xD) : Prop := ∀ a k, ¬ Sf a k → u a k = m a k
theorem Un.rf {m : xD} : Un m m := fun _ _ _ => rfl
theorem Un.tr {m u v : xD} (h1 : Un m u) (h2 : Un u v) : Un m v := fun a k h => (h2 a k h).trans (h1 a k h)
theorem Un.up {m u : xD} (h : Un m u) {a k : Nat} {x : Int} (hs : Sf a k) : Un m (xupd u a k x) := fun b j hb => (xupd_ne (fun e => hb (by rw [e.1, e.2]; exact hs))).trans (h b j hb)
theorem Un.N {m u : xD} (h : Un m u) : nN u = nN m := by
  unfold nN
  rw [h 292 0 (by unfold Sf; omega)]
theorem Un.drop {m : xD} {n : Nat} (hn : n < 12) (h6 : nJ m n ≤ 6) : Un m (tDrop m n) := fun a k h => by
  unfold Sf at h
  exact (xsh_ne (by omega)).trans (xupd_ne (by omega))
theorem Un.row {m : xD} {n : Nat} {w i : Int} (hn : n < 12) (h6 : nJ m n ≤ 5) : Un m (tRow m n w i) := fun a k h => by
  unfold Sf at h
  exact (xupd_ne (by omega)).trans ((xupd_ne (by omega)).trans ((xupd_ne (by omega)).trans (xupd_ne (by omega))))
theorem Un.note {m : xD} (hI : Inv m) {n : Nat} {w i : Int} (hn : n < nN m) : Un m (tNote m n w i) := by
  have a := iJn hI hn
  have b := iNn hI
  unfold tNote
  split
  · exact (Un.drop (by omega) (by omega)).tr (Un.row (by omega) (by rw [tDrop_J]; omega))
  · exact Un.row (by omega) (by omega)
theorem Un.set {m : xD} {n : Nat} {f : Int} (hn : n < 12) : Un m (tSet m n f) := by
  unfold tSet
  split
  · exact (Un.rf.up (by unfold Sf; omega)).up (by unfold Sf; omega)
  · exact Un.rf.up (by unfold Sf; omega)
theorem Un.app {m : xD} (hI : Inv m) {d r : Nat} (hd : d < 4) (hk : 0 < m 300 d) (hr : r < nR m d) : Un m (tApp m d r) := by
  have a := iRo hI hd hk hr
  have b := iNn hI
  exact (Un.set (by omega)).tr (Un.note hI.set (tSet_lt (by omega)))
theorem Un.com {m : xD} (hI : Inv m) : Un m (tCom m).2 := by
  have hc := sCom_rng (m := m)
  have hd := sCom_done hI
  unfold tCom
  split
  · exact Un.rf
  · split
    · exact ((Un.rf.up (by unfold Sf; omega)).up (by unfold Sf; omega)).up (by unfold Sf; omega)
    · split
      · exact Un.rf.up (by unfold Sf; omega)
      · exact (Un.app hI (by omega) (by omega) (by omega)).up (by unfold Sf; omega)
theorem Un.rep {m : xD} (hI : Inv m) : Un m (tRep m).2 := by
  have b := iNn hI
  have s := sNx_rng (m := m) (K := nN m)
  unfold tRep
  split
  · exact Un.rf
  · split
    · refine (Un.rf.up (a := 292) (k := 14) (x := 0) (by unfold Sf; omega)).tr (fun a k h => ?_)
      unfold Sf at h
      exact (if_neg (by omega)).trans (if_neg (by omega))
    · exact (Un.rf.up (by unfold Sf; omega)).up (by unfold Sf; omega)
theorem Un.go {m : xD} (hI : Inv m) {k : Int} : Un m (tGo k m).2 := by
  unfold tGo
  split
  · exact Un.com hI
  · exact Un.rep hI
theorem Un.steps {k : Int} : ∀ (n : Nat) {m : xD}, Inv m → Un m (tSt k n m).2
  | 0, _, _ => Un.rf
  | n + 1, m, h => by
    unfold tSt
    split
    · exact Un.rf
    · exact (Un.go h).tr (Un.steps n h.go)
theorem Un.cr {m : xD} (hI : Inv m) : Un m (tCr m) := by
  unfold tCr
  refine Un.up (Un.tr ?_ (fun a k h => if_neg (by unfold Sf at h; omega))) (by unfold Sf; omega)
  split
  · exact Un.rf
  · split
    · exact Un.rf
    · exact Un.steps 9 hI
theorem vw_ke {m : xD} {w : Nat → Bool} : vw (tKe m 314 w) = vw m := by
  funext a k
  by_cases c : a = 314
  · subst c
    rfl
  · unfold vw
    rw [tKe_ne c]
/-- behind an image of what was, and steps, it is again as it was -/
theorem vw_ag {m u : xD} (h : Un (tKe m 314 wAl) u) : vw (tAg u 314 wAl) = vw m := by
  funext a k
  unfold vw
  by_cases hv : vis a k = true
  · rw [hv]
    show (if pOb a k = true ∧ wAl (pos a k) = true then u 314 (pos a k) else u a k) = m a k
    by_cases c : pOb a k = true
    · have q := pOb_iff.mp c
      have w : wAl (pos a k) = true := decide_eq_true q.1
      rw [if_pos ⟨c, w⟩, h 314 _ (by unfold Sf; omega)]
      show (if 314 = 314 ∧ wAl (pos a k) = true then m (pa (pos a k)) (pk (pos a k)) else _) = _
      rw [if_pos ⟨rfl, w⟩, q.2.1, q.2.2]
    · rw [if_neg (fun e => c e.1)]
      have ne : ¬ a = 314 := fun e => by
        subst e
        cases hv
      have hs : ¬ Sf a k := fun hs => c (pOb_iff.mpr (by
        unfold Sf at hs
        rcases hs with ⟨rfl, rfl | rfl | rfl | rfl⟩ | ⟨rfl | rfl | rfl | rfl, hk⟩ | ⟨rfl, hk⟩ | ⟨rfl, hk⟩
        · exact ⟨by decide, by decide, by decide⟩
        · exact ⟨by decide, by decide, by decide⟩
        · exact ⟨by decide, by decide, by decide⟩
        · exact ⟨by decide, by decide, by decide⟩
        · have p := pp_296 hk; exact ⟨by rw [p.2.2.1]; exact p.2.2.2, by rw [p.2.2.1]; exact p.1, by rw [p.2.2.1]; exact p.2.1⟩
        · have p := pp_297 hk; exact ⟨by rw [p.2.2.1]; exact p.2.2.2, by rw [p.2.2.1]; exact p.1, by rw [p.2.2.1]; exact p.2.1⟩
        · have p := pp_298 hk; exact ⟨by rw [p.2.2.1]; exact p.2.2.2, by rw [p.2.2.1]; exact p.1, by rw [p.2.2.1]; exact p.2.1⟩
        · have p := pp_304 hk; exact ⟨by rw [p.2.2.1]; exact p.2.2.2, by rw [p.2.2.1]; exact p.1, by rw [p.2.2.1]; exact p.2.1⟩
        · have p := pp_299 hk; exact ⟨by rw [p.2.2.1]; exact p.2.2.2, by rw [p.2.2.1]; exact p.1, by rw [p.2.2.1]; exact p.2.1⟩
        · have p := pp_300 hk; exact ⟨by rw [p.2.2.1]; exact p.2.2.2, by rw [p.2.2.1]; exact p.1, by rw [p.2.2.1]; exact p.2.1⟩))
      show u a k = m a k
      rw [h a k hs, tKe_ne ne]
  · rw [Bool.not_eq_true] at hv
    rw [hv]
    rfl
def tAf (m : xD) (x : Int) (n : Nat) : xD := tCr (tSt x n (tKe m 314 wAl)).2
def y_after (m : xD) (x y z : Int) : Option xV × xD := if 0 ≤ x ∧ x ≤ 1 then (if 0 ≤ z ∧ z < m 292 0 then (if 0 ≤ y ∧ y ≤ 9 then (some (0, sVal (tAf m x y.toNat) z.toNat), tAg (tAf m x y.toNat) 314 wAl) else (some (0, -2), m)) else (some (0, -1), m)) else (some (0, -1), m)
theorem n_after {d : Nat} {g : xG} {t m : xD} {x y z : Int} (L : xLay g) (hM : Mo t m) (hI : Inv m) : xCall (d + 7) 168 [(2, ((292 : Nat) : Int)), (0, x), (0, y), (0, z)] g t (yQ g t (y_after m x y z)) := by
  show xOk (d + 7) 168 0 [(2, ((292 : Nat) : Int)), (0, x), (0, y), (0, z), (3, 0)] [] g t _
  have iNn_ := iNn hI
  refine xk_load rfl (p := 1) rfl rfl ?_
  refine xk_push rfl (p := 2) rfl ?_
  refine xk_push rfl (p := 3) rfl ?_
  refine xk_callp rfl (p := 6) rfl (by decide) rfl (Nat.le_of_ble_eq_true rfl) (Nat.le_of_ble_eq_true rfl) (rfl) (as := [(0, x), (0, 0), (0, 1)]) (r := []) rfl (v := (0, (if 0 ≤ x ∧ x ≤ 1 then (1 : Int) else 0))) (n_within) ?_
  refine xk_if rfl (p := 9) rfl (fun c6_1 => ?_) (fun c6_1 => ?_)
  · replace c6_1 : ¬ (0 ≤ x ∧ x ≤ 1) := xb_e0 c6_1
    refine xk_push rfl (p := 18) rfl ?_
    refine xk_ret rfl (rfl) ?_
    exact yRet (by unfold y_after; (repeat' split) <;> first | rfl | (exfalso; omega)) hM Md.rf
  · replace c6_1 : 0 ≤ x ∧ x ≤ 1 := xb_n0 c6_1
    refine xk_load rfl (p := 10) rfl rfl ?_
    refine xk_load rfl (p := 11) rfl rfl ?_
    refine xk_callp rfl (p := 14) rfl (by decide) rfl (Nat.le_of_ble_eq_true rfl) (Nat.le_of_ble_eq_true rfl) (xrv (ly_m L) (by decide)) (as := [(2, ((292 : Nat) : Int)), (0, z)]) (r := []) rfl (v := (0, (if 0 ≤ z ∧ z < m 292 0 then (1 : Int) else 0))) (n_isName L hM hI) ?_
    have iNn_ := iNn hI
    refine xk_if rfl (p := 17) rfl (fun c14_2 => ?_) (fun c14_2 => ?_)
    · replace c14_2 : 0 ≤ z ∧ z < m 292 0 := xb_n0 c14_2
      refine xk_load rfl (p := 20) rfl rfl ?_
      refine xk_push rfl (p := 21) rfl ?_
      refine xk_push rfl (p := 23) rfl ?_
      refine xk_callp rfl (p := 26) rfl (by decide) rfl (Nat.le_of_ble_eq_true rfl) (Nat.le_of_ble_eq_true rfl) (rfl) (as := [(0, y), (0, 0), (0, 9)]) (r := []) rfl (v := (0, (if 0 ≤ y ∧ y ≤ 9 then (1 : Int) else 0))) (n_within) ?_
      refine xk_if rfl (p := 29) rfl (fun c26_3 => ?_) (fun c26_3 => ?_)
      · replace c26_3 : 0 ≤ y ∧ y ≤ 9 := xb_n0 c26_3
        refine xk_load rfl (p := 33) rfl rfl ?_
        refine xk_load rfl (p := 34) rfl rfl ?_
        refine xk_getf rfl (p := 37) rfl (xob (ly_m L) (by decide)) (v := (2, ((314 : Nat) : Int))) (xsl2 rfl (ly_mp31 L)) ?_
        refine xk_call rfl (p := 40) rfl (by decide) rfl (Nat.le_of_ble_eq_true rfl) (Nat.le_of_ble_eq_true rfl) (xrv (ly_m L) (by decide)) (as := [(2, ((292 : Nat) : Int)), (2, ((314 : Nat) : Int))]) (r := []) rfl (n_keep L hM hI (A := 314) (.inr rfl) (ly_ms31 L)) ?_
        rintro _ g u1 ⟨rfl, rfl, hM1, hD1⟩
        have hI1 : Inv (tKe m 314 wAl) := hI.vi vw_ke.symm
        refine xk_load rfl (p := 41) rfl rfl ?_
        refine xk_load rfl (p := 42) rfl rfl ?_
        refine xk_load rfl (p := 43) rfl rfl ?_
        refine xk_call rfl (p := 46) rfl (by decide) rfl (Nat.le_of_ble_eq_true rfl) (Nat.le_of_ble_eq_true rfl) (xrv (ly_m L) (by decide)) (as := [(2, ((292 : Nat) : Int)), (0, x), (0, y)]) (r := []) rfl (n_steps L hM1 hI1 (by omega) (by omega)) ?_
        rintro _ g u2 ⟨rfl, rfl, hM2, hD2⟩
        refine xk_pop rfl (p := 47) rfl (show ¬ (0 : Nat) = 1 by decide) ?_
        refine xk_load rfl (p := 48) rfl rfl ?_
        refine xk_call rfl (p := 51) rfl (by decide) rfl (Nat.le_of_ble_eq_true rfl) (Nat.le_of_ble_eq_true rfl) (xrv (ly_m L) (by decide)) (as := [(2, ((292 : Nat) : Int))]) (r := []) rfl (n_crashes L hM2 (hI1.steps _)) ?_
        rintro _ g u3 ⟨rfl, rfl, hM3, hD3⟩
        refine xk_pop rfl (p := 52) rfl (show ¬ (0 : Nat) = 1 by decide) ?_
        refine xk_load rfl (p := 53) rfl rfl ?_
        refine xk_load rfl (p := 54) rfl rfl ?_
        refine xk_stk (show _ = (0, ((z.toNat : Nat) : Int)) :: [(2, ((292 : Nat) : Int))] from congrArg (fun z => ((0, z) : xV) :: [(2, ((292 : Nat) : Int))]) (Int.toNat_of_nonneg (show 0 ≤ z by omega)).symm) ?_
        refine xk_callp rfl (p := 57) rfl (by decide) rfl (Nat.le_of_ble_eq_true rfl) (Nat.le_of_ble_eq_true rfl) (xrv (ly_m L) (by decide)) (as := [(2, ((292 : Nat) : Int)), (0, ((z.toNat : Nat) : Int))]) (r := []) rfl (v := (0, sVal (tAf m x y.toNat) (z.toNat))) (n_value L hM3 (hI1.steps _).cr (show z.toNat < 12 by omega)) ?_
        refine xk_store rfl (p := 59) rfl (by decide) (Nat.le_of_ble_eq_true rfl) (ls' := [(2, ((292 : Nat) : Int)), (0, x), (0, y), (0, z), (0, sVal (tAf m x y.toNat) (z.toNat))]) rfl ?_
        refine xk_load rfl (p := 60) rfl rfl ?_
        refine xk_load rfl (p := 61) rfl rfl ?_
        refine xk_getf rfl (p := 64) rfl (xob (ly_m L) (by decide)) (v := (2, ((314 : Nat) : Int))) (xsl2 rfl (ly_mp31 L)) ?_
        refine xk_call rfl (p := 67) rfl (by decide) rfl (Nat.le_of_ble_eq_true rfl) (Nat.le_of_ble_eq_true rfl) (xrv (ly_m L) (by decide)) (as := [(2, ((292 : Nat) : Int)), (2, ((314 : Nat) : Int))]) (r := []) rfl (n_again L hM3 (hI1.steps _).cr (A := 314) (.inr rfl) (ly_ms31 L)) ?_
        rintro _ g u4 ⟨rfl, rfl, hM4, hD4⟩
        refine xk_load rfl (p := 69) rfl rfl ?_
        refine xk_ret rfl (rfl) ?_
        exact yRet ((if_pos (by omega)).trans ((if_pos (by omega)).trans (if_pos (by omega)))) hM4 (((hD1.tr hD2).tr hD3).tr hD4)
      · replace c26_3 : ¬ (0 ≤ y ∧ y ≤ 9) := xb_e1 c26_3
        refine xk_push rfl (p := 31) rfl ?_
        refine xk_ret rfl (rfl) ?_
        exact yRet ((if_pos (by omega)).trans ((if_pos (by omega)).trans (if_neg (by omega)))) hM Md.rf
    · replace c14_2 : ¬ (0 ≤ z ∧ z < m 292 0) := xb_e1 c14_2
      refine xk_push rfl (p := 18) rfl ?_
      refine xk_ret rfl (rfl) ?_
      exact yRet (by unfold y_after; (repeat' split) <;> first | rfl | (exfalso; omega)) hM Md.rf

def tKb (m : xD) (K : Nat) : xD := fun a j => if a = 312 ∧ j < K then m 310 j else if a = 312 ∧ 8 ≤ j ∧ j < 8 + K then m 311 (j - 8) else m a j
theorem tKb_0 {m : xD} : tKb m 0 = m := by
  funext a j
  exact (if_neg (by omega)).trans (if_neg (by omega))
theorem tKb_s {m : xD} {k a j : Nat} (hk : k < 8) (h : ¬ (a = 312 ∧ (j = k ∨ j = 8 + k))) : tKb m (k + 1) a j = tKb m k a j := by
  unfold tKb
  have e1 : (a = 312 ∧ j < k + 1) ↔ (a = 312 ∧ j < k) := by omega
  have e2 : (a = 312 ∧ 8 ≤ j ∧ j < 8 + (k + 1)) ↔ (a = 312 ∧ 8 ≤ j ∧ j < 8 + k) := by omega
  simp only [e1, e2]
theorem Mo.kb {t m : xD} {k : Nat} (h : Mo t (tKb m k)) (hk : k < 8) : Mo (xupd (xupd t 312 k (m 310 k)) 312 (8 + k) (m 311 k)) (tKb m (k + 1)) := fun a j ha => by
  by_cases c1 : a = 312 ∧ j = 8 + k
  · obtain ⟨rfl, rfl⟩ := c1
    refine xupd_eq.trans (Eq.symm ((if_neg (by omega)).trans ((if_pos (by omega)).trans (congrArg (m 311) (by omega)))))
  · refine (xupd_ne c1).trans ?_
    by_cases c2 : a = 312 ∧ j = k
    · obtain ⟨rfl, rfl⟩ := c2
      exact xupd_eq.trans (if_pos (by omega)).symm
    · exact (xupd_ne c2).trans ((h a j ha).trans (tKb_s hk (by omega)).symm)
def tIm (m : xD) : xD := tKb (tKe (xupd m 292 28 1) 313 wAl) 8
def y_image (m : xD) : Option xV × xD := (some (0, ((nN m : Nat) : Int)), tIm m)
def tUb (m : xD) (K : Nat) : xD := fun a j => if a = 310 ∧ j < K then m 312 j else if a = 311 ∧ j < K then m 312 (8 + j) else m a j
theorem tUb_0 {m : xD} : tUb m 0 = m := by
  funext a j
  exact (if_neg (by omega)).trans (if_neg (by omega))
theorem tUb_s {m : xD} {k a j : Nat} (h : ¬ ((a = 310 ∨ a = 311) ∧ j = k)) : tUb m (k + 1) a j = tUb m k a j := by
  unfold tUb
  have e1 : (a = 310 ∧ j < k + 1) ↔ (a = 310 ∧ j < k) := by omega
  have e2 : (a = 311 ∧ j < k + 1) ↔ (a = 311 ∧ j < k) := by omega
  simp only [e1, e2]
theorem Mo.ub {t m : xD} {k : Nat} (h : Mo t (tUb m k)) : Mo (xupd (xupd t 310 k (m 312 k)) 311 k (m 312 (8 + k))) (tUb m (k + 1)) := fun a j ha => by
  by_cases c1 : a = 311 ∧ j = k
  · obtain ⟨rfl, rfl⟩ := c1
    exact xupd_eq.trans (Eq.symm ((if_neg (by omega)).trans (if_pos (by omega))))
  · refine (xupd_ne c1).trans ?_
    by_cases c2 : a = 310 ∧ j = k
    · obtain ⟨rfl, rfl⟩ := c2
      exact xupd_eq.trans (if_pos (by omega)).symm
    · exact (xupd_ne c2).trans ((h a j ha).trans (tUb_s (by omega)).symm)
def tUd (m : xD) : xD := tUb (tAg m 313 wAl) 8
def y_undo (m : xD) : Option xV × xD := if m 292 28 = 0 then (some (0, -3), m) else (some (0, tUd m 292 0), tUd m)
theorem n_image {d : Nat} {g : xG} {t m : xD} (L : xLay g) (hM : Mo t m) (hI : Inv m) : xCall (d + 1) 189 [(2, ((292 : Nat) : Int))] g t (yQ g t (y_image m)) := by
  show xOk (d + 1) 189 0 [(2, ((292 : Nat) : Int)), (3, 0)] [] g t _
  have iNn_ := iNn hI
  refine xk_load rfl (p := 1) rfl rfl ?_
  refine xk_push rfl (p := 2) rfl ?_
  refine xk_putf rfl (p := 5) rfl (xob (ly_m L) (by decide)) rfl (by decide) (by decide) (fun _ => by simp) (by omega) ?_
  refine xk_load rfl (p := 6) rfl rfl ?_
  refine xk_load rfl (p := 7) rfl rfl ?_
  refine xk_getf rfl (p := 10) rfl (xob (ly_m L) (by decide)) (v := (2, ((313 : Nat) : Int))) (xsl2 rfl (ly_mp30 L)) ?_
  refine xk_call rfl (p := 13) rfl (by decide) rfl (Nat.le_of_ble_eq_true rfl) (Nat.le_of_ble_eq_true rfl) (xrv (ly_m L) (by decide)) (as := [(2, ((292 : Nat) : Int)), (2, ((313 : Nat) : Int))]) (r := []) rfl (n_keep (m := xupd m 292 28 1) L hM.up hI (A := 313) (.inl rfl) (ly_ms30 L)) ?_
  rintro _ g u1 ⟨rfl, rfl, hM1, hD1⟩
  refine xk_push rfl (p := 14) rfl ?_
  refine xk_store rfl (p := 15) rfl (by decide) (Nat.le_of_ble_eq_true rfl) (ls' := [(2, ((292 : Nat) : Int)), (0, 0)]) rfl ?_
  have lp1 : ∀ k : Nat, k ≤ 8 → ∀ (u2 : xD), (Mo u2 (tKb (tKe (xupd m 292 28 1) 313 wAl) k)) → (Md t u2) → xOk (d + 1) 189 15 [(2, ((292 : Nat) : Int)), (0, ((k : Nat) : Int))] [] g u2 (yQ g t (y_image m)) := by
    refine xk_up 8 (fun k hkk ih1  u2 hi1 hi2 => ?_)
    refine xk_load rfl (p := 16) rfl rfl ?_
    refine xk_push rfl (p := 18) rfl ?_
    refine xk_icmp rfl (p := 21) rfl (fun c18_2 => ?_) (fun c18_2 => ?_)
    · replace c18_2 : 8 ≤ ((k : Nat) : Int) := c18_2
      refine xk_load rfl (p := 55) rfl rfl ?_
      refine xk_getf rfl (p := 58) rfl (xob (ly_m L) (by decide)) (v := (0, ((nN m : Nat) : Int))) (xsl0 rfl ((hi1 292 0 (by decide)).trans (iNn hI).1)) ?_
      refine xk_ret rfl (rfl) ?_
      rw [show k = 8 by omega] at hi1
      exact yRet rfl hi1 hi2
    · replace c18_2 : ¬ (8 ≤ ((k : Nat) : Int)) := c18_2
      refine xk_load rfl (p := 22) rfl rfl ?_
      refine xk_getf rfl (p := 25) rfl (xob (ly_m L) (by decide)) (v := (2, ((312 : Nat) : Int))) (xsl2 rfl (ly_mp29 L)) ?_
      refine xk_load rfl (p := 26) rfl rfl ?_
      refine xk_load rfl (p := 27) rfl rfl ?_
      refine xk_getf rfl (p := 30) rfl (xob (ly_m L) (by decide)) (v := (2, ((310 : Nat) : Int))) (xsl2 rfl (ly_mp26 L)) ?_
      refine xk_load rfl (p := 31) rfl rfl ?_
      refine xk_ald rfl (p := 32) rfl (v := (0, m 310 k)) ((xal0 (ly_ms26 L) (show k < 8 by omega)).trans (congrArg (fun z => some (0, z)) (hi1 310 k (by decide)))) ?_
      refine xk_ast rfl (p := 33) rfl (by decide) rfl (xsk (ly_ms29 L)) (xsn (ly_ms29 L) (show k < 16 by omega)) (by omega) ?_
      refine xk_load rfl (p := 34) rfl rfl ?_
      refine xk_getf rfl (p := 37) rfl (xob (ly_m L) (by decide)) (v := (2, ((312 : Nat) : Int))) (xsl2 rfl (ly_mp29 L)) ?_
      refine xk_push rfl (p := 39) rfl ?_
      refine xk_load rfl (p := 40) rfl rfl ?_
      refine xk_bin rfl (p := 41) rfl (z := ((8 + k : Nat) : Int)) (congrArg some (xadd_n (n := 8) (m := k) (by omega))) ?_
      refine xk_load rfl (p := 42) rfl rfl ?_
      refine xk_getf rfl (p := 45) rfl (xob (ly_m L) (by decide)) (v := (2, ((311 : Nat) : Int))) (xsl2 rfl (ly_mp27 L)) ?_
      refine xk_load rfl (p := 46) rfl rfl ?_
      refine xk_ald rfl (p := 47) rfl (v := (0, m 311 k)) ((xal0 (ly_ms27 L) (show k < 8 by omega)).trans (congrArg (fun z => some (0, z)) (((xupd_ne (by omega)).trans (hi1 311 k (by decide)))))) ?_
      refine xk_ast rfl (p := 48) rfl (by decide) rfl (xsk (ly_ms29 L)) (xsn (ly_ms29 L) (show 8 + k < 16 by omega)) (by omega) ?_
      refine xk_inc1 rfl (p := 51) rfl (n := k) rfl (by omega) (ls' := [(2, ((292 : Nat) : Int)), (0, ((k + 1 : Nat) : Int))]) rfl ?_
      refine xk_goto rfl ?_
      exact ih1 (by omega)  (xupd (xupd u2 312 k (m 310 k)) 312 (8 + k) (m 311 k)) (by exact hi1.kb (by omega)) (by exact (hi2.up (by decide)).up (by decide))
  exact lp1 0 (by omega)  u1 (by rw [tKb_0]; exact hM1) (by exact (Md.rf.up (by decide)).tr hD1)

theorem n_undo {d : Nat} {g : xG} {t m : xD} (L : xLay g) (hM : Mo t m) (hI : Inv m) : xCall (d + 1) 190 [(2, ((292 : Nat) : Int))] g t (yQ g t (y_undo m)) := by
  show xOk (d + 1) 190 0 [(2, ((292 : Nat) : Int)), (3, 0)] [] g t _
  have iNn_ := iNn hI
  refine xk_load rfl (p := 1) rfl rfl ?_
  refine xk_getf rfl (p := 4) rfl (xob (ly_m L) (by decide)) (v := (0, m 292 28)) (xsl0 rfl (hM 292 28 (by decide))) ?_
  refine xk_if rfl (p := 7) rfl (fun c4_1 => ?_) (fun c4_1 => ?_)
  · replace c4_1 : ¬ (m 292 28 = 0) := c4_1
    refine xk_load rfl (p := 11) rfl rfl ?_
    refine xk_load rfl (p := 12) rfl rfl ?_
    refine xk_getf rfl (p := 15) rfl (xob (ly_m L) (by decide)) (v := (2, ((313 : Nat) : Int))) (xsl2 rfl (ly_mp30 L)) ?_
    refine xk_call rfl (p := 18) rfl (by decide) rfl (Nat.le_of_ble_eq_true rfl) (Nat.le_of_ble_eq_true rfl) (xrv (ly_m L) (by decide)) (as := [(2, ((292 : Nat) : Int)), (2, ((313 : Nat) : Int))]) (r := []) rfl (n_again L hM hI (A := 313) (.inl rfl) (ly_ms30 L)) ?_
    rintro _ g u1 ⟨rfl, rfl, hM1, hD1⟩
    refine xk_push rfl (p := 19) rfl ?_
    refine xk_store rfl (p := 20) rfl (by decide) (Nat.le_of_ble_eq_true rfl) (ls' := [(2, ((292 : Nat) : Int)), (0, 0)]) rfl ?_
    have lp2 : ∀ k : Nat, k ≤ 8 → ∀ (u2 : xD), (Mo u2 (tUb (tAg m 313 wAl) k)) → (Md t u2) → xOk (d + 1) 190 20 [(2, ((292 : Nat) : Int)), (0, ((k : Nat) : Int))] [] g u2 (yQ g t (y_undo m)) := by
      refine xk_up 8 (fun k hkk ih2  u2 hi1 hi2 => ?_)
      refine xk_load rfl (p := 21) rfl rfl ?_
      refine xk_push rfl (p := 23) rfl ?_
      refine xk_icmp rfl (p := 26) rfl (fun c23_3 => ?_) (fun c23_3 => ?_)
      · replace c23_3 : 8 ≤ ((k : Nat) : Int) := c23_3
        refine xk_load rfl (p := 60) rfl rfl ?_
        refine xk_getf rfl (p := 63) rfl (xob (ly_m L) (by decide)) (v := (0, tUb (tAg m 313 wAl) k 292 0)) (xsl0 rfl (hi1 292 0 (by decide))) ?_
        refine xk_ret rfl (rfl) ?_
        rw [show k = 8 by omega] at hi1 ⊢
        exact yRet (if_neg (by assumption)) hi1 hi2
      · replace c23_3 : ¬ (8 ≤ ((k : Nat) : Int)) := c23_3
        refine xk_load rfl (p := 27) rfl rfl ?_
        refine xk_getf rfl (p := 30) rfl (xob (ly_m L) (by decide)) (v := (2, ((310 : Nat) : Int))) (xsl2 rfl (ly_mp26 L)) ?_
        refine xk_load rfl (p := 31) rfl rfl ?_
        refine xk_load rfl (p := 32) rfl rfl ?_
        refine xk_getf rfl (p := 35) rfl (xob (ly_m L) (by decide)) (v := (2, ((312 : Nat) : Int))) (xsl2 rfl (ly_mp29 L)) ?_
        refine xk_load rfl (p := 36) rfl rfl ?_
        refine xk_ald rfl (p := 37) rfl (v := (0, (tAg m 313 wAl) 312 k)) ((xal0 (ly_ms29 L) (show k < 16 by omega)).trans (congrArg (fun z => some (0, z)) ((hi1 312 k (by decide))))) ?_
        refine xk_ast rfl (p := 38) rfl (by decide) rfl (xsk (ly_ms26 L)) (xsn (ly_ms26 L) (show k < 8 by omega)) (by omega) ?_
        refine xk_load rfl (p := 39) rfl rfl ?_
        refine xk_getf rfl (p := 42) rfl (xob (ly_m L) (by decide)) (v := (2, ((311 : Nat) : Int))) (xsl2 rfl (ly_mp27 L)) ?_
        refine xk_load rfl (p := 43) rfl rfl ?_
        refine xk_load rfl (p := 44) rfl rfl ?_
        refine xk_getf rfl (p := 47) rfl (xob (ly_m L) (by decide)) (v := (2, ((312 : Nat) : Int))) (xsl2 rfl (ly_mp29 L)) ?_
        refine xk_push rfl (p := 49) rfl ?_
        refine xk_load rfl (p := 50) rfl rfl ?_
        refine xk_bin rfl (p := 51) rfl (z := ((8 + k : Nat) : Int)) (congrArg some (xadd_n (n := 8) (m := k) (by omega))) ?_
        refine xk_ald rfl (p := 52) rfl (v := (0, (tAg m 313 wAl) 312 (8 + k))) ((xal0 (ly_ms29 L) (show 8 + k < 16 by omega)).trans (congrArg (fun z => some (0, z)) (((xupd_ne (by omega)).trans ((hi1 312 (8 + k) (by decide))))))) ?_
        refine xk_ast rfl (p := 53) rfl (by decide) rfl (xsk (ly_ms27 L)) (xsn (ly_ms27 L) (show k < 8 by omega)) (by omega) ?_
        refine xk_inc1 rfl (p := 56) rfl (n := k) rfl (by omega) (ls' := [(2, ((292 : Nat) : Int)), (0, ((k + 1 : Nat) : Int))]) rfl ?_
        refine xk_goto rfl ?_
        exact ih2 (by omega)  (xupd (xupd u2 310 k ((tAg m 313 wAl) 312 k)) 311 k ((tAg m 313 wAl) 312 (8 + k))) (by exact hi1.ub) (by exact (hi2.up (by decide)).up (by decide))
    exact lp2 0 (by omega)  u1 (by rw [tUb_0]; exact hM1) (by exact hD1)
  · replace c4_1 : m 292 28 = 0 := Decidable.not_not.mp c4_1
    refine xk_push rfl (p := 9) rfl ?_
    refine xk_ret rfl (rfl) ?_
    exact yRet (if_pos (by assumption)) hM Md.rf

def tAct (m : xD) (w n : Int) : xD := if w < 2 then (tSt w 1 m).2 else if w = 2 then tCr m else xupd m 296 n.toNat 0
def tPn (m : xD) : Nat → xD
  | 0 => m
  | i + 1 => tAct (tPn m i) (m 308 i) (m 309 i)
theorem Inv.loo {m : xD} (h : Inv m) {n : Nat} {x : Int} : Inv (xupd m 296 n x) := h
theorem tPn_ok {m : xD} (h : Inv m) : ∀ i, i ≤ (m 292 22).toNat → Inv (tPn m i) ∧ Un m (tPn m i)
  | 0, _ => ⟨h, Un.rf⟩
  | i + 1, hi => by
    obtain ⟨a1, a2⟩ := tPn_ok h i (by omega)
    have l := iL h
    have l2 := l.2.2 i (by omega)
    have b := iNn h
    show Inv (tAct _ _ _) ∧ Un m (tAct _ _ _)
    unfold tAct
    split
    · exact ⟨a1.steps 1, a2.tr (Un.steps 1 a1)⟩
    · split
      · exact ⟨a1.cr, a2.tr (Un.cr a1)⟩
      · exact ⟨a1.loo, a2.up (by unfold Sf; omega)⟩
def tEn (m : xD) : xD := tPn (tKe m 314 wAl) (m 292 22).toNat
def y_ends (m : xD) (x : Int) : Option xV × xD := if 0 ≤ x ∧ x < m 292 0 then (some (0, sVal (tEn m) x.toNat), tAg (tEn m) 314 wAl) else (some (0, -1), m)
theorem n_ends {d : Nat} {g : xG} {t m : xD} {x : Int} (L : xLay g) (hM : Mo t m) (hI : Inv m) : xCall (d + 7) 183 [(2, ((292 : Nat) : Int)), (0, x)] g t (yQ g t (y_ends m x)) := by
  show xOk (d + 7) 183 0 [(2, ((292 : Nat) : Int)), (0, x), (3, 0)] [] g t _
  have iNn_ := iNn hI
  have iL0_ := iL hI
  refine xk_load rfl (p := 1) rfl rfl ?_
  refine xk_load rfl (p := 2) rfl rfl ?_
  refine xk_callp rfl (p := 5) rfl (by decide) rfl (Nat.le_of_ble_eq_true rfl) (Nat.le_of_ble_eq_true rfl) (xrv (ly_m L) (by decide)) (as := [(2, ((292 : Nat) : Int)), (0, x)]) (r := []) rfl (v := (0, (if 0 ≤ x ∧ x < m 292 0 then (1 : Int) else 0))) (n_isName L hM hI) ?_
  have iNn_ := iNn hI
  refine xk_if rfl (p := 8) rfl (fun c5_1 => ?_) (fun c5_1 => ?_)
  · replace c5_1 : 0 ≤ x ∧ x < m 292 0 := xb_n0 c5_1
    refine xk_load rfl (p := 11) rfl rfl ?_
    refine xk_load rfl (p := 12) rfl rfl ?_
    refine xk_getf rfl (p := 15) rfl (xob (ly_m L) (by decide)) (v := (2, ((314 : Nat) : Int))) (xsl2 rfl (ly_mp31 L)) ?_
    refine xk_call rfl (p := 18) rfl (by decide) rfl (Nat.le_of_ble_eq_true rfl) (Nat.le_of_ble_eq_true rfl) (xrv (ly_m L) (by decide)) (as := [(2, ((292 : Nat) : Int)), (2, ((314 : Nat) : Int))]) (r := []) rfl (n_keep L hM hI (A := 314) (.inr rfl) (ly_ms31 L)) ?_
    rintro _ g u1 ⟨rfl, rfl, hM1, hD1⟩
    have hI1 : Inv (tKe m 314 wAl) := hI.vi vw_ke.symm
    refine xk_push rfl (p := 19) rfl ?_
    refine xk_store rfl (p := 20) rfl (by decide) (Nat.le_of_ble_eq_true rfl) (ls' := [(2, ((292 : Nat) : Int)), (0, x), (0, 0)]) rfl ?_
    have lp2 : ∀ k : Nat, k ≤ (m 292 22).toNat → ∀ (u2 : xD), (Mo u2 (tPn (tKe m 314 wAl) k)) → (Md t u2) → xOk (d + 7) 183 20 [(2, ((292 : Nat) : Int)), (0, x), (0, ((k : Nat) : Int))] [] g u2 (yQ g t (y_ends m x)) := by
      refine xk_up ((m 292 22).toNat) (fun k hkk ih2  u2 hi1 hi2 => ?_)
      have pk_ := tPn_ok hI1 k hkk
      have e308 : tKe m 314 wAl 308 k = m 308 k := tKe_ne (by decide)
      have e309 : tKe m 314 wAl 309 k = m 309 k := tKe_ne (by decide)
      have iL_ := fun (hh : k < (m 292 22).toNat) => iL0_.2.2 k (by omega)
      refine xk_load rfl (p := 21) rfl rfl ?_
      refine xk_load rfl (p := 22) rfl rfl ?_
      refine xk_getf rfl (p := 25) rfl (xob (ly_m L) (by decide)) (v := (0, m 292 22)) (xsl0 rfl ((hi1 292 22 (by decide)).trans (pk_.2 292 22 (by unfold Sf; omega)))) ?_
      refine xk_icmp rfl (p := 28) rfl (fun c25_3 => ?_) (fun c25_3 => ?_)
      · replace c25_3 : m 292 22 ≤ ((k : Nat) : Int) := c25_3
        refine xk_load rfl (p := 90) rfl rfl ?_
        refine xk_load rfl (p := 91) rfl rfl ?_
        refine xk_stk (show _ = (0, ((x.toNat : Nat) : Int)) :: [(2, ((292 : Nat) : Int))] from congrArg (fun z => ((0, z) : xV) :: [(2, ((292 : Nat) : Int))]) (Int.toNat_of_nonneg (show 0 ≤ x by omega)).symm) ?_
        refine xk_callp rfl (p := 94) rfl (by decide) rfl (Nat.le_of_ble_eq_true rfl) (Nat.le_of_ble_eq_true rfl) (xrv (ly_m L) (by decide)) (as := [(2, ((292 : Nat) : Int)), (0, ((x.toNat : Nat) : Int))]) (r := []) rfl (v := (0, sVal (tPn (tKe m 314 wAl) k) (x.toNat))) (n_value L hi1 pk_.1 (show x.toNat < 12 by omega)) ?_
        refine xk_store rfl (p := 95) rfl (by decide) (Nat.le_of_ble_eq_true rfl) (ls' := [(2, ((292 : Nat) : Int)), (0, x), (0, sVal (tPn (tKe m 314 wAl) k) (x.toNat))]) rfl ?_
        refine xk_load rfl (p := 96) rfl rfl ?_
        refine xk_load rfl (p := 97) rfl rfl ?_
        refine xk_getf rfl (p := 100) rfl (xob (ly_m L) (by decide)) (v := (2, ((314 : Nat) : Int))) (xsl2 rfl (ly_mp31 L)) ?_
        refine xk_call rfl (p := 103) rfl (by decide) rfl (Nat.le_of_ble_eq_true rfl) (Nat.le_of_ble_eq_true rfl) (xrv (ly_m L) (by decide)) (as := [(2, ((292 : Nat) : Int)), (2, ((314 : Nat) : Int))]) (r := []) rfl (n_again L hi1 pk_.1 (A := 314) (.inr rfl) (ly_ms31 L)) ?_
        rintro _ g u5 ⟨rfl, rfl, hM5, hD5⟩
        refine xk_load rfl (p := 104) rfl rfl ?_
        refine xk_ret rfl (rfl) ?_
        have ek : k = (m 292 22).toNat := by omega
        subst ek
        exact yRet (if_pos (by assumption)) hM5 (hi2.tr hD5)
      · replace c25_3 : ¬ (m 292 22 ≤ ((k : Nat) : Int)) := c25_3
        refine xk_load rfl (p := 29) rfl rfl ?_
        refine xk_getf rfl (p := 32) rfl (xob (ly_m L) (by decide)) (v := (2, ((308 : Nat) : Int))) (xsl2 rfl (ly_mp23 L)) ?_
        refine xk_load rfl (p := 33) rfl rfl ?_
        refine xk_ald rfl (p := 34) rfl (v := (0, m 308 k)) ((xal0 (ly_ms23 L) (show k < 10 by omega)).trans (congrArg (fun z => some (0, z)) ((hi1 308 k (by decide)).trans (pk_.2 308 k (by unfold Sf; omega))))) ?_
        refine xk_push rfl (p := 35) rfl ?_
        refine xk_icmp rfl (p := 38) rfl (fun c35_4 => ?_) (fun c35_4 => ?_)
        · replace c35_4 : 2 ≤ m 308 k := c35_4
          refine xk_load rfl (p := 54) rfl rfl ?_
          refine xk_getf rfl (p := 57) rfl (xob (ly_m L) (by decide)) (v := (2, ((308 : Nat) : Int))) (xsl2 rfl (ly_mp23 L)) ?_
          refine xk_load rfl (p := 58) rfl rfl ?_
          refine xk_ald rfl (p := 59) rfl (v := (0, m 308 k)) ((xal0 (ly_ms23 L) (show k < 10 by omega)).trans (congrArg (fun z => some (0, z)) ((hi1 308 k (by decide)).trans (pk_.2 308 k (by unfold Sf; omega))))) ?_
          refine xk_push rfl (p := 60) rfl ?_
          refine xk_icmp rfl (p := 63) rfl (fun c60_5 => ?_) (fun c60_5 => ?_)
          · replace c60_5 : ¬ (m 308 k = 2) := c60_5
            refine xk_load rfl (p := 72) rfl rfl ?_
            refine xk_getf rfl (p := 75) rfl (xob (ly_m L) (by decide)) (v := (2, ((296 : Nat) : Int))) (xsl2 rfl (ly_mp4 L)) ?_
            refine xk_load rfl (p := 76) rfl rfl ?_
            refine xk_getf rfl (p := 79) rfl (xob (ly_m L) (by decide)) (v := (2, ((309 : Nat) : Int))) (xsl2 rfl (ly_mp24 L)) ?_
            refine xk_load rfl (p := 80) rfl rfl ?_
            refine xk_ald rfl (p := 81) rfl (v := (0, m 309 k)) ((xal0 (ly_ms24 L) (show k < 10 by omega)).trans (congrArg (fun z => some (0, z)) ((hi1 309 k (by decide)).trans (pk_.2 309 k (by unfold Sf; omega))))) ?_
            refine xk_push rfl (p := 82) rfl ?_
            refine xk_asti rfl (p := 83) rfl (show 0 ≤ m 309 k by omega) (by decide) rfl (xsk (ly_ms4 L)) (xsn (ly_ms4 L) (show (m 309 k).toNat < 12 by omega)) (by omega) ?_
            refine xk_inc1 rfl (p := 86) rfl (n := k) rfl (by omega) (ls' := [(2, ((292 : Nat) : Int)), (0, x), (0, ((k + 1 : Nat) : Int))]) rfl ?_
            refine xk_goto rfl ?_
            exact ih2 (by omega)  (xupd u2 296 ((m 309 k).toNat) 0) (by show Mo _ (tAct _ _ _); unfold tAct; rw [e308, e309, if_neg (by omega), if_neg (by omega)]; exact hi1.up) (by exact hi2.up (by decide))
          · replace c60_5 : m 308 k = 2 := Decidable.not_not.mp c60_5
            refine xk_load rfl (p := 64) rfl rfl ?_
            refine xk_call rfl (p := 67) rfl (by decide) rfl (Nat.le_of_ble_eq_true rfl) (Nat.le_of_ble_eq_true rfl) (xrv (ly_m L) (by decide)) (as := [(2, ((292 : Nat) : Int))]) (r := []) rfl (n_crashes L hi1 pk_.1) ?_
            rintro _ g u3 ⟨rfl, rfl, hM3, hD3⟩
            refine xk_pop rfl (p := 68) rfl (show ¬ (0 : Nat) = 1 by decide) ?_
            refine xk_goto rfl ?_
            refine xk_inc1 rfl (p := 86) rfl (n := k) rfl (by omega) (ls' := [(2, ((292 : Nat) : Int)), (0, x), (0, ((k + 1 : Nat) : Int))]) rfl ?_
            refine xk_goto rfl ?_
            exact ih2 (by omega)  u3 (by first | (show Mo u3 (tAct _ _ _); unfold tAct; rw [e308, if_pos (by omega)]; exact hM3) | (show Mo u3 (tAct _ _ _); unfold tAct; rw [e308, if_neg (by omega), if_pos (by omega)]; exact hM3)) (by exact hi2.tr hD3)
        · replace c35_4 : ¬ (2 ≤ m 308 k) := c35_4
          refine xk_load rfl (p := 39) rfl rfl ?_
          refine xk_load rfl (p := 40) rfl rfl ?_
          refine xk_getf rfl (p := 43) rfl (xob (ly_m L) (by decide)) (v := (2, ((308 : Nat) : Int))) (xsl2 rfl (ly_mp23 L)) ?_
          refine xk_load rfl (p := 44) rfl rfl ?_
          refine xk_ald rfl (p := 45) rfl (v := (0, m 308 k)) ((xal0 (ly_ms23 L) (show k < 10 by omega)).trans (congrArg (fun z => some (0, z)) ((hi1 308 k (by decide)).trans (pk_.2 308 k (by unfold Sf; omega))))) ?_
          refine xk_push rfl (p := 46) rfl ?_
          refine xk_call rfl (p := 49) rfl (by decide) rfl (Nat.le_of_ble_eq_true rfl) (Nat.le_of_ble_eq_true rfl) (xrv (ly_m L) (by decide)) (as := [(2, ((292 : Nat) : Int)), (0, m 308 k), (0, 1)]) (r := []) rfl (n_steps L hi1 pk_.1 (by decide) (by decide)) ?_
          rintro _ g u3 ⟨rfl, rfl, hM3, hD3⟩
          refine xk_pop rfl (p := 50) rfl (show ¬ (0 : Nat) = 1 by decide) ?_
          refine xk_goto rfl ?_
          refine xk_inc1 rfl (p := 86) rfl (n := k) rfl (by omega) (ls' := [(2, ((292 : Nat) : Int)), (0, x), (0, ((k + 1 : Nat) : Int))]) rfl ?_
          refine xk_goto rfl ?_
          exact ih2 (by omega)  u3 (by first | (show Mo u3 (tAct _ _ _); unfold tAct; rw [e308, if_pos (by omega)]; exact hM3) | (show Mo u3 (tAct _ _ _); unfold tAct; rw [e308, if_neg (by omega), if_pos (by omega)]; exact hM3)) (by exact hi2.tr hD3)
    exact lp2 0 (by omega)  u1 (by exact hM1) (by exact hD1)
  · replace c5_1 : ¬ (0 ≤ x ∧ x < m 292 0) := xb_e1 c5_1
    refine xk_push rfl (p := 9) rfl ?_
    refine xk_ret rfl (rfl) ?_
    exact yRet (if_neg (by assumption)) hM Md.rf
