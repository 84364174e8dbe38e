/-! THE CLASS: READS OF THE LAW, SMALL WRITES -/
theorem c_folder {d : Nat} {g : xG} {t m : xD} {x y : Int} (L : xLay g) (hI : Inv m) (hR : Rep t 0 m) : xCall (d + 1) 72 [(2, ((2 : Nat) : Int)), (0, x), (0, y)] g t (zQ 0 g t (some (0, y_folder m x y), m)) := by
  show xOk (d + 1) 72 0 [(2, ((2 : Nat) : Int)), (0, x), (0, y)] [] g t _
  have iNn_ := iNn hI
  have hs : 0 < 3 := by decide
  have hs1 : 1 < 3 := by decide
  have hs2 : 2 < 3 := by decide
  refine xk_load rfl (p := 1) rfl rfl ?_
  refine xk_getf rfl (p := 4) rfl (xob (ly_x L) (by decide)) (v := (2, (((5 + 89 * 0) : Nat) : Int))) (xsl2 rfl (ly_x1 L)) ?_
  refine xk_load rfl (p := 5) rfl rfl ?_
  refine xk_callp rfl (p := 8) rfl (by decide) rfl (Nat.le_of_ble_eq_true rfl) (Nat.le_of_ble_eq_true rfl) (xrv (ly_st L hs) (by decide)) (as := [(2, (((5 + 89 * 0) : Nat) : Int)), (0, x)]) (r := []) rfl (v := (0, (if 0 ≤ x ∧ x < m 292 0 then (1 : Int) else 0))) (c_isName L hs hI hR) ?_
  have iNn_ := iNn hI
  refine xk_if rfl (p := 11) rfl (fun c8_1 => ?_) (fun c8_1 => ?_)
  · replace c8_1 : ¬ (0 ≤ x ∧ x < m 292 0) := xb_e0 c8_1
    refine xk_push rfl (p := 23) rfl ?_
    refine xk_ret rfl (rfl) ?_
    exact zRet (congrArg (fun z => (some ((0, z) : xV), m)) (show y_folder m x y = (-1) from (by unfold y_folder; (repeat' split) <;> first | rfl | (exfalso; omega) | (congr 1; omega)))) hR Fr.rf
  · replace c8_1 : 0 ≤ x ∧ x < m 292 0 := xb_n0 c8_1
    refine xk_load rfl (p := 12) rfl rfl ?_
    refine xk_getf rfl (p := 15) rfl (xob (ly_x L) (by decide)) (v := (2, (((5 + 89 * 0) : Nat) : Int))) (xsl2 rfl (ly_x1 L)) ?_
    refine xk_load rfl (p := 16) rfl rfl ?_
    refine xk_callp rfl (p := 19) rfl (by decide) rfl (Nat.le_of_ble_eq_true rfl) (Nat.le_of_ble_eq_true rfl) (xrv (ly_st L hs) (by decide)) (as := [(2, (((5 + 89 * 0) : Nat) : Int)), (0, y)]) (r := []) rfl (v := (0, (if 0 ≤ y ∧ y < m 292 0 then (1 : Int) else 0))) (c_isName L hs hI hR) ?_
    have iNn_ := iNn hI
    refine xk_if rfl (p := 22) rfl (fun c19_2 => ?_) (fun c19_2 => ?_)
    · replace c19_2 : 0 ≤ y ∧ y < m 292 0 := xb_n0 c19_2
      refine xk_load rfl (p := 25) rfl rfl ?_
      refine xk_getf rfl (p := 28) rfl (xob (ly_x L) (by decide)) (v := (2, (((5 + 89 * 0) : Nat) : Int))) (xsl2 rfl (ly_x1 L)) ?_
      refine xk_getf rfl (p := 31) rfl (xob (ly_st L hs) (by decide)) (v := (2, (((6 + 89 * 0) : Nat) : Int))) (xsl2 rfl (ly_s0 L hs)) ?_
      refine xk_load rfl (p := 32) rfl rfl ?_
      refine xk_aldi rfl (p := 33) rfl (show 0 ≤ x by omega) (v := (2, (((18 + 89 * 0 + 5 * (x.toNat)) : Nat) : Int))) (xal2 (ly_sn L hs) (by decide) (show x.toNat < 12 by omega) (ly_ne L hs (show x.toNat < 12 by omega))) ?_
      refine xk_load rfl (p := 34) rfl rfl ?_
      refine xk_getf rfl (p := 37) rfl (xob (ly_x L) (by decide)) (v := (2, (((5 + 89 * 0) : Nat) : Int))) (xsl2 rfl (ly_x1 L)) ?_
      refine xk_getf rfl (p := 40) rfl (xob (ly_st L hs) (by decide)) (v := (2, (((6 + 89 * 0) : Nat) : Int))) (xsl2 rfl (ly_s0 L hs)) ?_
      refine xk_load rfl (p := 41) rfl rfl ?_
      refine xk_aldi rfl (p := 42) rfl (show 0 ≤ y by omega) (v := (2, (((18 + 89 * 0 + 5 * (y.toNat)) : Nat) : Int))) (xal2 (ly_sn L hs) (by decide) (show y.toNat < 12 by omega) (ly_ne L hs (show y.toNat < 12 by omega))) ?_
      refine xk_callp rfl (p := 45) rfl (by decide) rfl (Nat.le_of_ble_eq_true rfl) (Nat.le_of_ble_eq_true rfl) (xrv ((ly_nm L hs (show x.toNat < 12 by omega)).1) (by decide)) (as := [(2, (((18 + 89 * 0 + 5 * (x.toNat)) : Nat) : Int)), (2, (((18 + 89 * 0 + 5 * (y.toNat)) : Nat) : Int))]) (r := []) rfl (v := (0, (if bFol m (x.toNat) (y.toNat) = true then (1 : Int) else 0))) (c_isFolderOf L hs hI hR (show x.toNat < nN m by omega) (show y.toNat < nN m by omega)) ?_
      refine xk_if rfl (p := 48) rfl (fun c45_3 => ?_) (fun c45_3 => ?_)
      · replace c45_3 : ¬ (bFol m (x.toNat) (y.toNat) = true) := xb_e0 c45_3
        refine xk_push rfl (p := 53) rfl ?_
        refine xk_ret rfl (rfl) ?_
        exact zRet (congrArg (fun z => (some ((0, z) : xV), m)) (show y_folder m x y = 0 from (by unfold y_folder; (repeat' split) <;> first | rfl | (exfalso; omega) | (congr 1; omega)))) hR Fr.rf
      · replace c45_3 : bFol m (x.toNat) (y.toNat) = true := xb_n0 c45_3
        refine xk_push rfl (p := 49) rfl ?_
        refine xk_goto rfl ?_
        refine xk_ret rfl (rfl) ?_
        exact zRet (congrArg (fun z => (some ((0, z) : xV), m)) (show y_folder m x y = 1 from (by unfold y_folder; (repeat' split) <;> first | rfl | (exfalso; omega) | (congr 1; omega)))) hR Fr.rf
    · replace c19_2 : ¬ (0 ≤ y ∧ y < m 292 0) := xb_e1 c19_2
      refine xk_push rfl (p := 23) rfl ?_
      refine xk_ret rfl (rfl) ?_
      exact zRet (congrArg (fun z => (some ((0, z) : xV), m)) (show y_folder m x y = (-1) from (by unfold y_folder; (repeat' split) <;> first | rfl | (exfalso; omega) | (congr 1; omega)))) hR Fr.rf

theorem c_journal {d : Nat} {g : xG} {t m : xD} {x y z : Int} (L : xLay g) (hI : Inv m) (hR : Rep t 0 m) : xCall (d + 1) 74 [(2, ((2 : Nat) : Int)), (0, x), (0, y), (0, z)] g t (zQ 0 g t (some (0, y_journal m x y z), m)) := by
  show xOk (d + 1) 74 0 [(2, ((2 : Nat) : Int)), (0, x), (0, y), (0, z), (3, 0)] [] g t _
  have iNn_ := iNn hI
  have hs : 0 < 3 := by decide
  have hs1 : 1 < 3 := by decide
  have hs2 : 2 < 3 := by decide
  refine xk_load rfl (p := 1) rfl rfl ?_
  refine xk_getf rfl (p := 4) rfl (xob (ly_x L) (by decide)) (v := (2, (((5 + 89 * 0) : Nat) : Int))) (xsl2 rfl (ly_x1 L)) ?_
  refine xk_load rfl (p := 5) rfl rfl ?_
  refine xk_callp rfl (p := 8) rfl (by decide) rfl (Nat.le_of_ble_eq_true rfl) (Nat.le_of_ble_eq_true rfl) (xrv (ly_st L hs) (by decide)) (as := [(2, (((5 + 89 * 0) : Nat) : Int)), (0, x)]) (r := []) rfl (v := (0, (if 0 ≤ x ∧ x < m 292 0 then (1 : Int) else 0))) (c_isName L hs hI hR) ?_
  have iNn_ := iNn hI
  refine xk_if rfl (p := 11) rfl (fun c8_1 => ?_) (fun c8_1 => ?_)
  · replace c8_1 : 0 ≤ x ∧ x < m 292 0 := xb_n0 c8_1
    refine xk_load rfl (p := 14) rfl rfl ?_
    refine xk_getf rfl (p := 17) rfl (xob (ly_x L) (by decide)) (v := (2, (((5 + 89 * 0) : Nat) : Int))) (xsl2 rfl (ly_x1 L)) ?_
    refine xk_getf rfl (p := 20) rfl (xob (ly_st L hs) (by decide)) (v := (2, (((6 + 89 * 0) : Nat) : Int))) (xsl2 rfl (ly_s0 L hs)) ?_
    refine xk_load rfl (p := 21) rfl rfl ?_
    refine xk_aldi rfl (p := 22) rfl (show 0 ≤ x by omega) (v := (2, (((18 + 89 * 0 + 5 * (x.toNat)) : Nat) : Int))) (xal2 (ly_sn L hs) (by decide) (show x.toNat < 12 by omega) (ly_ne L hs (show x.toNat < 12 by omega))) ?_
    refine xk_getf rfl (p := 25) rfl (xob ((ly_nm L hs (show x.toNat < 12 by omega)).1) (by decide)) (v := (2, ((((18 + 89 * 0 + 5 * (x.toNat)) + 1) : Nat) : Int))) (xsl2 rfl ((ly_nm L hs (show x.toNat < 12 by omega)).2.2)) ?_
    refine xk_store rfl (p := 27) rfl (by decide) (Nat.le_of_ble_eq_true rfl) (ls' := [(2, ((2 : Nat) : Int)), (0, x), (0, y), (0, z), (2, ((((18 + 89 * 0 + 5 * (x.toNat)) + 1) : Nat) : Int))]) rfl ?_
    refine xk_load rfl (p := 28) rfl rfl ?_
    refine xk_if rfl (p := 31) rfl (fun c28_2 => ?_) (fun c28_2 => ?_)
    · replace c28_2 : y < 0 := c28_2
      refine xk_push rfl (p := 41) rfl ?_
      refine xk_ret rfl (rfl) ?_
      exact zRet (congrArg (fun z => (some ((0, z) : xV), m)) (show y_journal m x y z = (-1) from (by unfold y_journal; (repeat' split) <;> first | rfl | (exfalso; omega) | (congr 1; omega)))) hR Fr.rf
    · replace c28_2 : ¬ (y < 0) := c28_2
      refine xk_load rfl (p := 32) rfl rfl ?_
      refine xk_load rfl (p := 34) rfl rfl ?_
      refine xk_getf rfl (p := 37) rfl (xob ((ly_nm L hs (show x.toNat < 12 by omega)).2.1.1) (by decide)) (v := (0, ((nJ m (x.toNat) : Nat) : Int))) (xsl0 rfl ((rJn hR (show x.toNat < nN m by omega)).trans (iJn hI (show x.toNat < nN m by omega)).1)) ?_
      have iJn_ := iJn hI (show x.toNat < nN m by omega)
      refine xk_icmp rfl (p := 40) rfl (fun c37_3 => ?_) (fun c37_3 => ?_)
      · replace c37_3 : y < ((nJ m (x.toNat) : Nat) : Int) := c37_3
        refine xk_load rfl (p := 43) rfl rfl ?_
        by_cases c43_4 : z = 0
        · refine xk_switch rfl (w := 68) (by rw [c43_4]; rfl) ?_
          refine xk_load rfl (p := 70) rfl rfl ?_
          refine xk_getf rfl (p := 73) rfl (xob ((ly_nm L hs (show x.toNat < 12 by omega)).2.1.1) (by decide)) (v := (2, (((((18 + 89 * 0 + 5 * (x.toNat)) + 1) + 1) : Nat) : Int))) (xsl2 rfl ((ly_nm L hs (show x.toNat < 12 by omega)).2.1.2.2.2.2.1)) ?_
          refine xk_load rfl (p := 74) rfl rfl ?_
          refine xk_aldi rfl (p := 75) rfl (show 0 ≤ y by omega) (v := (0, m 299 (18 * (x.toNat) + 3 * (y.toNat)))) ((xal0 ((ly_nm L hs (show x.toNat < 12 by omega)).2.1.2.1) (show y.toNat < 6 by omega)).trans (congrArg (fun z => some (0, z)) (rJ1 hR (show x.toNat < nN m by omega) (show ((y.toNat : Nat) : Int) < m 298 (x.toNat) by omega)))) ?_
          refine xk_ret rfl (rfl) ?_
          exact zRet (congrArg (fun z => (some ((0, z) : xV), m)) (show y_journal m x y z = m 299 (18 * (x.toNat) + 3 * (y.toNat)) from (by unfold y_journal; (repeat' split) <;> first | rfl | (exfalso; omega) | (congr 1; omega)))) hR Fr.rf
        by_cases c43_5 : z = 1
        · refine xk_switch rfl (w := 76) (by rw [c43_5]; rfl) ?_
          refine xk_load rfl (p := 78) rfl rfl ?_
          refine xk_getf rfl (p := 81) rfl (xob ((ly_nm L hs (show x.toNat < 12 by omega)).2.1.1) (by decide)) (v := (2, (((((18 + 89 * 0 + 5 * (x.toNat)) + 1) + 2) : Nat) : Int))) (xsl2 rfl ((ly_nm L hs (show x.toNat < 12 by omega)).2.1.2.2.2.2.2.1)) ?_
          refine xk_load rfl (p := 82) rfl rfl ?_
          refine xk_aldi rfl (p := 83) rfl (show 0 ≤ y by omega) (v := (0, m 299 (18 * (x.toNat) + 3 * (y.toNat) + 1))) ((xal0 ((ly_nm L hs (show x.toNat < 12 by omega)).2.1.2.2.1) (show y.toNat < 6 by omega)).trans (congrArg (fun z => some (0, z)) (rJ2 hR (show x.toNat < nN m by omega) (show ((y.toNat : Nat) : Int) < m 298 (x.toNat) by omega)))) ?_
          refine xk_ret rfl (rfl) ?_
          exact zRet (congrArg (fun z => (some ((0, z) : xV), m)) (show y_journal m x y z = m 299 (18 * (x.toNat) + 3 * (y.toNat) + 1) from (by unfold y_journal; (repeat' split) <;> first | rfl | (exfalso; omega) | (congr 1; omega)))) hR Fr.rf
        by_cases c43_6 : z = 2
        · refine xk_switch rfl (w := 84) (by rw [c43_6]; rfl) ?_
          refine xk_load rfl (p := 86) rfl rfl ?_
          refine xk_getf rfl (p := 89) rfl (xob ((ly_nm L hs (show x.toNat < 12 by omega)).2.1.1) (by decide)) (v := (2, (((((18 + 89 * 0 + 5 * (x.toNat)) + 1) + 3) : Nat) : Int))) (xsl2 rfl ((ly_nm L hs (show x.toNat < 12 by omega)).2.1.2.2.2.2.2.2)) ?_
          refine xk_load rfl (p := 90) rfl rfl ?_
          refine xk_aldi rfl (p := 91) rfl (show 0 ≤ y by omega) (v := (0, m 299 (18 * (x.toNat) + 3 * (y.toNat) + 2))) ((xal0 ((ly_nm L hs (show x.toNat < 12 by omega)).2.1.2.2.2.1) (show y.toNat < 6 by omega)).trans (congrArg (fun z => some (0, z)) (rJ3 hR (show x.toNat < nN m by omega) (show ((y.toNat : Nat) : Int) < m 298 (x.toNat) by omega)))) ?_
          refine xk_ret rfl (rfl) ?_
          exact zRet (congrArg (fun z => (some ((0, z) : xV), m)) (show y_journal m x y z = m 299 (18 * (x.toNat) + 3 * (y.toNat) + 2) from (by unfold y_journal; (repeat' split) <;> first | rfl | (exfalso; omega) | (congr 1; omega)))) hR Fr.rf
        refine xk_switch rfl (w := 92) (if_pos (by first | omega | (simp only [List.length]; omega))) ?_
        refine xk_push rfl (p := 93) rfl ?_
        refine xk_ret rfl (rfl) ?_
        exact zRet (congrArg (fun z => (some ((0, z) : xV), m)) (show y_journal m x y z = (-1) from (by unfold y_journal; (repeat' split) <;> first | rfl | (exfalso; omega) | (congr 1; omega)))) hR Fr.rf
      · replace c37_3 : ¬ (y < ((nJ m (x.toNat) : Nat) : Int)) := c37_3
        refine xk_push rfl (p := 41) rfl ?_
        refine xk_ret rfl (rfl) ?_
        exact zRet (congrArg (fun z => (some ((0, z) : xV), m)) (show y_journal m x y z = (-1) from (by unfold y_journal; (repeat' split) <;> first | rfl | (exfalso; omega) | (congr 1; omega)))) hR Fr.rf
  · replace c8_1 : ¬ (0 ≤ x ∧ x < m 292 0) := xb_e1 c8_1
    refine xk_push rfl (p := 12) rfl ?_
    refine xk_ret rfl (rfl) ?_
    exact zRet (congrArg (fun z => (some ((0, z) : xV), m)) (show y_journal m x y z = (-1) from (by unfold y_journal; (repeat' split) <;> first | rfl | (exfalso; omega) | (congr 1; omega)))) hR Fr.rf

theorem c_looked {d : Nat} {g : xG} {t m : xD} (L : xLay g) (hI : Inv m) (hR : Rep t 0 m) : xCall (d + 2) 97 [(2, ((2 : Nat) : Int))] g t (zQ 0 g t (some (0, y_looked m ), m)) := by
  show xOk (d + 2) 97 0 [(2, ((2 : Nat) : Int)), (3, 0)] [] g t _
  have iNn_ := iNn hI
  have hs : 0 < 3 := by decide
  have hs1 : 1 < 3 := by decide
  have hs2 : 2 < 3 := by decide
  refine xk_push rfl (p := 1) rfl ?_
  refine xk_store rfl (p := 2) rfl (by decide) (Nat.le_of_ble_eq_true rfl) (ls' := [(2, ((2 : Nat) : Int)), (0, 0)]) rfl ?_
  have lp1 : ∀ k : Nat, k ≤ (m 292 25).toNat → (∀ i, i < k → ¬ ¬ sVal m (m 310 i).toNat = m 311 i) → xOk (d + 2) 97 2 [(2, ((2 : Nat) : Int)), (0, ((k : Nat) : Int))] [] g t (zQ 0 g t (some (0, y_looked m ), m)) := by
    refine xk_up ((m 292 25).toNat) (fun k hkk ih1  hi1 => ?_)
    refine xk_load rfl (p := 3) rfl rfl ?_
    refine xk_load rfl (p := 4) rfl rfl ?_
    refine xk_getf rfl (p := 7) rfl (xob (ly_x L) (by decide)) (v := (2, (((5 + 89 * 0) : Nat) : Int))) (xsl2 rfl (ly_x1 L)) ?_
    refine xk_getf rfl (p := 10) rfl (xob (ly_st L hs) (by decide)) (v := (2, (((14 + 89 * 0) : Nat) : Int))) (xsl2 rfl (ly_s4 L hs)) ?_
    refine xk_getf rfl (p := 13) rfl (xob ((ly_p3 L hs).1) (by decide)) (v := (0, m 292 25)) (xsl0 rfl (rBn hR)) ?_
    have iB_ := iB hI
    refine xk_icmp rfl (p := 16) rfl (fun c13_2 => ?_) (fun c13_2 => ?_)
    · replace c13_2 : m 292 25 ≤ ((k : Nat) : Int) := c13_2
      refine xk_push rfl (p := 60) rfl ?_
      refine xk_ret rfl (rfl) ?_
      exact zRet (congrArg (fun z => (some ((0, z) : xV), m)) (show y_looked m  = (-5) from (xiyf0 (by omega) hi1).symm)) hR Fr.rf
    · replace c13_2 : ¬ (m 292 25 ≤ ((k : Nat) : Int)) := c13_2
      refine xk_load rfl (p := 17) rfl rfl ?_
      refine xk_getf rfl (p := 20) rfl (xob (ly_x L) (by decide)) (v := (2, (((5 + 89 * 0) : Nat) : Int))) (xsl2 rfl (ly_x1 L)) ?_
      refine xk_load rfl (p := 21) rfl rfl ?_
      refine xk_getf rfl (p := 24) rfl (xob (ly_x L) (by decide)) (v := (2, (((5 + 89 * 0) : Nat) : Int))) (xsl2 rfl (ly_x1 L)) ?_
      refine xk_getf rfl (p := 27) rfl (xob (ly_st L hs) (by decide)) (v := (2, (((14 + 89 * 0) : Nat) : Int))) (xsl2 rfl (ly_s4 L hs)) ?_
      refine xk_getf rfl (p := 30) rfl (xob ((ly_p3 L hs).1) (by decide)) (v := (2, ((((14 + 89 * 0) + 1) : Nat) : Int))) (xsl2 rfl ((ly_p3 L hs).2.2.2.1)) ?_
      refine xk_load rfl (p := 31) rfl rfl ?_
      refine xk_ald rfl (p := 32) rfl (v := (0, m 310 k)) ((xal0 ((ly_p3 L hs).2.1) (show k < 10 by omega)).trans (congrArg (fun z => some (0, z)) (rB1 hR (show ((k : Nat) : Int) < m 292 25 by omega)))) ?_
      have iB_ := (iB hI).2.2 k (show ((k : Nat) : Int) < m 292 25 by omega)
      refine xk_stk (show _ = (0, (((m 310 k).toNat : Nat) : Int)) :: [(2, (((5 + 89 * 0) : Nat) : Int))] from congrArg (fun z => ((0, z) : xV) :: [(2, (((5 + 89 * 0) : Nat) : Int))]) (Int.toNat_of_nonneg (show 0 ≤ m 310 k by omega)).symm) ?_
      refine xk_callp rfl (p := 35) rfl (by decide) rfl (Nat.le_of_ble_eq_true rfl) (Nat.le_of_ble_eq_true rfl) (xrv (ly_st L hs) (by decide)) (as := [(2, (((5 + 89 * 0) : Nat) : Int)), (0, (((m 310 k).toNat : Nat) : Int))]) (r := []) rfl (v := (0, sVal m ((m 310 k).toNat))) (xCall_eq (c_valueOf L hs hI hR (show (m 310 k).toNat < nN m by omega)) cVal_eq) ?_
      refine xk_load rfl (p := 36) rfl rfl ?_
      refine xk_getf rfl (p := 39) rfl (xob (ly_x L) (by decide)) (v := (2, (((5 + 89 * 0) : Nat) : Int))) (xsl2 rfl (ly_x1 L)) ?_
      refine xk_getf rfl (p := 42) rfl (xob (ly_st L hs) (by decide)) (v := (2, (((14 + 89 * 0) : Nat) : Int))) (xsl2 rfl (ly_s4 L hs)) ?_
      refine xk_getf rfl (p := 45) rfl (xob ((ly_p3 L hs).1) (by decide)) (v := (2, ((((14 + 89 * 0) + 2) : Nat) : Int))) (xsl2 rfl ((ly_p3 L hs).2.2.2.2)) ?_
      refine xk_load rfl (p := 46) rfl rfl ?_
      refine xk_ald rfl (p := 47) rfl (v := (0, m 311 k)) ((xal0 ((ly_p3 L hs).2.2.1) (show k < 10 by omega)).trans (congrArg (fun z => some (0, z)) (rB2 hR (show ((k : Nat) : Int) < m 292 25 by omega)))) ?_
      refine xk_icmp rfl (p := 50) rfl (fun c47_3 => ?_) (fun c47_3 => ?_)
      · replace c47_3 : sVal m ((m 310 k).toNat) = m 311 k := c47_3
        refine xk_inc1 rfl (p := 55) rfl (n := k) rfl (by omega) (ls' := [(2, ((2 : Nat) : Int)), (0, ((k + 1 : Nat) : Int))]) rfl ?_
        refine xk_goto rfl ?_
        exact ih1 (by omega)  (by exact xall_up hi1 (by omega))
      · replace c47_3 : ¬ (sVal m ((m 310 k).toNat) = m 311 k) := c47_3
        refine xk_load rfl (p := 51) rfl rfl ?_
        refine xk_ret rfl (rfl) ?_
        exact zRet (congrArg (fun z => (some ((0, z) : xV), m)) (show y_looked m  = ((k : Nat) : Int) from (xiyf1 (by omega) hi1 (by assumption)).symm)) hR Fr.rf
  exact lp1 0 (by omega)  (by intro i h; omega)

theorem Rep.snow {t m : xD} {s k : Nat} {x : Int} (h : Rep t s m) (hI : Inv m) : Rep (xupd t (17 + 89 * s) k x) s m := by
  have hN := (iNn hI).2
  refine ⟨h.1.fr (fun k => ?_), h.2.1.fr (fun k => ?_), h.2.2.1.fr (fun n k hn => ?_), h.2.2.2.1.fr (fun n j k hn hj => ?_), h.2.2.2.2.1.fr (fun d j k hd hj => ?_), h.2.2.2.2.2.1.fr (fun j k hj => ?_), h.2.2.2.2.2.2.1.fr (fun j k hj => ?_), h.2.2.2.2.2.2.2.fr (fun j k hj => ?_)⟩ <;> exact xupd_ne (by omega)
theorem c_wrongOf {d : Nat} {g : xG} {t m : xD} {s : Nat} {n : Nat} (L : xLay g) (hs : s < 3) (hI : Inv m) (hR : Rep t s m) (hn : n < 4) (hk : 0 < m 300 n) : xCall (d + 3) 48 [(2, (((5 + 89 * s) : Nat) : Int)), (0, ((n : Nat) : Int))] g t (zQ s g t (some (0, sWrong m n), m)) := by
  show xOk (d + 3) 48 0 [(2, (((5 + 89 * s) : Nat) : Int)), (0, ((n : Nat) : Int)), (3, 0)] [] g t _
  have iNn_ := iNn hI
  refine xk_push rfl (p := 1) rfl ?_
  refine xk_store rfl (p := 2) rfl (by decide) (Nat.le_of_ble_eq_true rfl) (ls' := [(2, (((5 + 89 * s) : Nat) : Int)), (0, ((n : Nat) : Int)), (0, 0)]) rfl ?_
  have lp1 : ∀ k : Nat, k ≤ nN m → ∀ (u1 : xD), (Rep u1 s m) → (Fr s t u1) → (∀ q, q < k → u1 (17 + 89 * s) q = sSto m q) → xOk (d + 3) 48 2 [(2, (((5 + 89 * s) : Nat) : Int)), (0, ((n : Nat) : Int)), (0, ((k : Nat) : Int))] [] g u1 (zQ s g t (some (0, sWrong m n), m)) := by
    refine xk_up (nN m) (fun k hkk ih1  u1 h1_1 h1_2 h1_3 => ?_)
    refine xk_load rfl (p := 3) rfl rfl ?_
    refine xk_load rfl (p := 4) rfl rfl ?_
    refine xk_getf rfl (p := 7) rfl (xob (ly_st L hs) (by decide)) (v := (0, ((nN m : Nat) : Int))) (xsl0 rfl (rNn h1_1 hI)) ?_
    have iNn_ := iNn hI
    refine xk_icmp rfl (p := 10) rfl (fun c7_2 => ?_) (fun c7_2 => ?_)
    · replace c7_2 : ((nN m : Nat) : Int) ≤ ((k : Nat) : Int) := c7_2
      refine xk_load rfl (p := 32) rfl rfl ?_
      refine xk_load rfl (p := 33) rfl rfl ?_
      refine xk_getf rfl (p := 36) rfl (xob (ly_st L hs) (by decide)) (v := (2, (((7 + 89 * s) : Nat) : Int))) (xsl2 rfl (ly_s1 L hs)) ?_
      refine xk_load rfl (p := 37) rfl rfl ?_
      refine xk_ald rfl (p := 38) rfl (v := (2, (((78 + 89 * s + 4 * n) : Nat) : Int))) (xal2 (ly_sd L hs) (by decide) (show n < 4 by omega) (ly_de L hs (show n < 4 by omega))) ?_
      refine xk_load rfl (p := 39) rfl rfl ?_
      refine xk_getf rfl (p := 42) rfl (xob (ly_st L hs) (by decide)) (v := (2, (((17 + 89 * s) : Nat) : Int))) (xsl2 rfl (ly_s5 L hs)) ?_
      refine xk_load rfl (p := 43) rfl rfl ?_
      refine xk_load rfl (p := 44) rfl rfl ?_
      refine xk_push rfl (p := 45) rfl ?_
      refine xk_callp rfl (p := 48) rfl (by decide) rfl (Nat.le_of_ble_eq_true rfl) (Nat.le_of_ble_eq_true rfl) (xrv (ly_st L hs) (by decide)) (as := [(2, (((5 + 89 * s) : Nat) : Int)), (0, ((n : Nat) : Int)), (0, 0)]) (r := [(2, (((17 + 89 * s) : Nat) : Int)), (2, (((78 + 89 * s + 4 * n) : Nat) : Int)), (2, (((5 + 89 * s) : Nat) : Int))]) rfl (v := (0, ((nOth m ((n : Nat) : Int) 0 : Nat) : Int))) (c_namesOfOthers L hs hI h1_1) ?_
      have nOth0_ := nOth_lt hI (x := ((n : Nat) : Int)) (b := 0)
      refine xk_load rfl (p := 49) rfl rfl ?_
      refine xk_load rfl (p := 50) rfl rfl ?_
      refine xk_push rfl (p := 51) rfl ?_
      refine xk_callp rfl (p := 54) rfl (by decide) rfl (Nat.le_of_ble_eq_true rfl) (Nat.le_of_ble_eq_true rfl) (xrv (ly_st L hs) (by decide)) (as := [(2, (((5 + 89 * s) : Nat) : Int)), (0, ((n : Nat) : Int)), (0, 1)]) (r := [(0, ((nOth m ((n : Nat) : Int) 0 : Nat) : Int)), (2, (((17 + 89 * s) : Nat) : Int)), (2, (((78 + 89 * s + 4 * n) : Nat) : Int)), (2, (((5 + 89 * s) : Nat) : Int))]) rfl (v := (0, ((nOth m ((n : Nat) : Int) 1 : Nat) : Int))) (c_namesOfOthers L hs hI h1_1) ?_
      have nOth1_ := nOth_lt hI (x := ((n : Nat) : Int)) (b := 1)
      refine xk_callp rfl (p := 57) rfl (by decide) rfl (Nat.le_of_ble_eq_true rfl) (Nat.le_of_ble_eq_true rfl) (xrv (ly_st L hs) (by decide)) (as := [(2, (((5 + 89 * s) : Nat) : Int)), (2, (((78 + 89 * s + 4 * n) : Nat) : Int)), (2, (((17 + 89 * s) : Nat) : Int)), (0, ((nOth m ((n : Nat) : Int) 0 : Nat) : Int)), (0, ((nOth m ((n : Nat) : Int) 1 : Nat) : Int))]) (r := []) rfl (v := (0, wF (wB m n (sSto m) (nOth m ((n : Nat) : Int) 0) (nThere m n (sSto m) (nOth m ((n : Nat) : Int) 1))) (nR m n))) (c_wrongBy L hs hI h1_1 (show n < 4 by omega) (show 0 < m 300 n by omega) ((ly_sr L hs)) ((fun n hn => h1_3 n (by omega))) (by omega) (by omega)) ?_
      refine xk_ret rfl (rfl) ?_
      exact zRet (congrArg (fun z => (some ((0, z) : xV), m)) (sWrong_wB hI hn hk).symm) h1_1 h1_2
    · replace c7_2 : ¬ (((nN m : Nat) : Int) ≤ ((k : Nat) : Int)) := c7_2
      refine xk_load rfl (p := 11) rfl rfl ?_
      refine xk_getf rfl (p := 14) rfl (xob (ly_st L hs) (by decide)) (v := (2, (((17 + 89 * s) : Nat) : Int))) (xsl2 rfl (ly_s5 L hs)) ?_
      refine xk_load rfl (p := 15) rfl rfl ?_
      refine xk_load rfl (p := 16) rfl rfl ?_
      refine xk_getf rfl (p := 19) rfl (xob (ly_st L hs) (by decide)) (v := (2, (((6 + 89 * s) : Nat) : Int))) (xsl2 rfl (ly_s0 L hs)) ?_
      refine xk_load rfl (p := 20) rfl rfl ?_
      refine xk_ald rfl (p := 21) rfl (v := (2, (((18 + 89 * s + 5 * k) : Nat) : Int))) (xal2 (ly_sn L hs) (by decide) (show k < 12 by omega) (ly_ne L hs (show k < 12 by omega))) ?_
      refine xk_callp rfl (p := 24) rfl (by decide) rfl (Nat.le_of_ble_eq_true rfl) (Nat.le_of_ble_eq_true rfl) (xrv ((ly_nm L hs (show k < 12 by omega)).1) (by decide)) (as := [(2, (((18 + 89 * s + 5 * k) : Nat) : Int))]) (r := [(0, ((k : Nat) : Int)), (2, (((17 + 89 * s) : Nat) : Int))]) rfl (v := (0, sSto m k)) (c_stored L hs hI h1_1 (show k < nN m by omega)) ?_
      refine xk_ast rfl (p := 25) rfl (by decide) rfl (xsk (ly_sr L hs)) (xsn (ly_sr L hs) (show k < 12 by omega)) (by omega) ?_
      refine xk_inc1 rfl (p := 28) rfl (n := k) rfl (by omega) (ls' := [(2, (((5 + 89 * s) : Nat) : Int)), (0, ((n : Nat) : Int)), (0, ((k + 1 : Nat) : Int))]) rfl ?_
      refine xk_goto rfl ?_
      exact ih1 (by omega)  (xupd u1 (17 + 89 * s) k (sSto m k)) (by exact h1_1.snow hI) (by exact h1_2.up (by omega) (by omega)) (by exact fun q hq => dite (q = k) (fun cq => by subst cq; exact xupd_eq) (fun cq => (xupd_ne (by omega)).trans (h1_3 q (by omega))))
  exact lp1 0 (by omega)  t (by exact hR) (by exact Fr.rf) (by intro q hq; omega)

theorem c_told {d : Nat} {g : xG} {t m : xD} {x y : Int} (L : xLay g) (hI : Inv m) (hR : Rep t 0 m) : xCall (d + 4) 85 [(2, ((2 : Nat) : Int)), (0, x), (0, y)] g t (zQ 0 g t (some (0, y_told m x y), m)) := by
  show xOk (d + 4) 85 0 [(2, ((2 : Nat) : Int)), (0, x), (0, y), (3, 0)] [] g t _
  have iNn_ := iNn hI
  have hs : 0 < 3 := by decide
  have hs1 : 1 < 3 := by decide
  have hs2 : 2 < 3 := by decide
  refine xk_load rfl (p := 1) rfl rfl ?_
  refine xk_getf rfl (p := 4) rfl (xob (ly_x L) (by decide)) (v := (2, (((5 + 89 * 0) : Nat) : Int))) (xsl2 rfl (ly_x1 L)) ?_
  refine xk_load rfl (p := 5) rfl rfl ?_
  refine xk_callp rfl (p := 8) rfl (by decide) rfl (Nat.le_of_ble_eq_true rfl) (Nat.le_of_ble_eq_true rfl) (xrv (ly_st L hs) (by decide)) (as := [(2, (((5 + 89 * 0) : Nat) : Int)), (0, x)]) (r := []) rfl (v := (0, (if 0 ≤ x ∧ x < 4 ∧ 0 < m 300 x.toNat then (1 : Int) else 0))) (c_isDeal L hs hI hR) ?_
  refine xk_if rfl (p := 11) rfl (fun c8_1 => ?_) (fun c8_1 => ?_)
  · replace c8_1 : 0 ≤ x ∧ x < 4 ∧ 0 < m 300 x.toNat := xb_n0 c8_1
    refine xk_load rfl (p := 14) rfl rfl ?_
    refine xk_getf rfl (p := 17) rfl (xob (ly_x L) (by decide)) (v := (2, (((5 + 89 * 0) : Nat) : Int))) (xsl2 rfl (ly_x1 L)) ?_
    refine xk_getf rfl (p := 20) rfl (xob (ly_st L hs) (by decide)) (v := (2, (((7 + 89 * 0) : Nat) : Int))) (xsl2 rfl (ly_s1 L hs)) ?_
    refine xk_load rfl (p := 21) rfl rfl ?_
    refine xk_aldi rfl (p := 22) rfl (show 0 ≤ x by omega) (v := (2, (((78 + 89 * 0 + 4 * (x.toNat)) : Nat) : Int))) (xal2 (ly_sd L hs) (by decide) (show x.toNat < 4 by omega) (ly_de L hs (show x.toNat < 4 by omega))) ?_
    refine xk_store rfl (p := 23) rfl (by decide) (Nat.le_of_ble_eq_true rfl) (ls' := [(2, ((2 : Nat) : Int)), (0, x), (0, y), (2, (((78 + 89 * 0 + 4 * (x.toNat)) : Nat) : Int))]) rfl ?_
    refine xk_load rfl (p := 24) rfl rfl ?_
    by_cases c24_2 : y = 0
    · refine xk_switch rfl (w := 56) (by rw [c24_2]; rfl) ?_
      refine xk_load rfl (p := 57) rfl rfl ?_
      refine xk_getf rfl (p := 60) rfl (xob ((ly_dl L hs (show x.toNat < 4 by omega)).1) (by decide)) (v := (0, (m 300 (x.toNat) - 1))) (xsl0 rfl (rKnd hR (show x.toNat < 4 by omega) (show 0 < m 300 (x.toNat) by omega))) ?_
      refine xk_ret rfl (rfl) ?_
      exact zRet (congrArg (fun z => (some ((0, z) : xV), m)) (show y_told m x y = (m 300 (x.toNat) - 1) from (by unfold y_told; (repeat' split) <;> first | rfl | (exfalso; omega) | (congr 1; omega)))) hR Fr.rf
    by_cases c24_3 : y = 1
    · refine xk_switch rfl (w := 61) (by rw [c24_3]; rfl) ?_
      refine xk_load rfl (p := 62) rfl rfl ?_
      refine xk_getf rfl (p := 65) rfl (xob ((ly_dl L hs (show x.toNat < 4 by omega)).1) (by decide)) (v := (0, ((nR m (x.toNat) : Nat) : Int))) (xsl0 rfl ((rRow hR (show x.toNat < 4 by omega) (show 0 < m 300 (x.toNat) by omega)).trans (iRn hI (show x.toNat < 4 by omega)).1)) ?_
      have iRn_ := iRn hI (show x.toNat < 4 by omega)
      refine xk_ret rfl (rfl) ?_
      exact zRet (congrArg (fun z => (some ((0, z) : xV), m)) (show y_told m x y = ((nR m (x.toNat) : Nat) : Int) from (by unfold y_told; (repeat' split) <;> first | rfl | (exfalso; omega) | (congr 1; omega)))) hR Fr.rf
    by_cases c24_4 : y = 2
    · refine xk_switch rfl (w := 66) (by rw [c24_4]; rfl) ?_
      refine xk_load rfl (p := 67) rfl rfl ?_
      refine xk_getf rfl (p := 70) rfl (xob ((ly_dl L hs (show x.toNat < 4 by omega)).1) (by decide)) (v := (0, sPha m (x.toNat))) (xsl0 rfl (rPha hR (show x.toNat < 4 by omega))) ?_
      have sPha_ := sPha_c hI (show x.toNat < 4 by omega)
      refine xk_ret rfl (rfl) ?_
      exact zRet (congrArg (fun z => (some ((0, z) : xV), m)) (show y_told m x y = sPha m (x.toNat) from (by unfold y_told; (repeat' split) <;> first | rfl | (exfalso; omega) | (congr 1; omega)))) hR Fr.rf
    by_cases c24_5 : y = 3
    · refine xk_switch rfl (w := 71) (by rw [c24_5]; rfl) ?_
      refine xk_load rfl (p := 72) rfl rfl ?_
      refine xk_getf rfl (p := 75) rfl (xob ((ly_dl L hs (show x.toNat < 4 by omega)).1) (by decide)) (v := (0, sPha m (x.toNat))) (xsl0 rfl (rPha hR (show x.toNat < 4 by omega))) ?_
      have sPha_ := sPha_c hI (show x.toNat < 4 by omega)
      refine xk_if rfl (p := 78) rfl (fun c75_6 => ?_) (fun c75_6 => ?_)
      · replace c75_6 : ¬ (sPha m (x.toNat) = 0) := c75_6
        refine xk_push rfl (p := 90) rfl ?_
        refine xk_ret rfl (rfl) ?_
        exact zRet (congrArg (fun z => (some ((0, z) : xV), m)) (show y_told m x y = 0 from (by unfold y_told; (repeat' split) <;> first | rfl | (exfalso; omega) | (congr 1; omega)))) hR Fr.rf
      · replace c75_6 : sPha m (x.toNat) = 0 := Decidable.not_not.mp c75_6
        refine xk_load rfl (p := 79) rfl rfl ?_
        refine xk_getf rfl (p := 82) rfl (xob (ly_x L) (by decide)) (v := (2, (((5 + 89 * 0) : Nat) : Int))) (xsl2 rfl (ly_x1 L)) ?_
        refine xk_load rfl (p := 83) rfl rfl ?_
        refine xk_stk (show _ = (0, ((x.toNat : Nat) : Int)) :: [(2, (((5 + 89 * 0) : Nat) : Int))] from congrArg (fun z => ((0, z) : xV) :: [(2, (((5 + 89 * 0) : Nat) : Int))]) (Int.toNat_of_nonneg (show 0 ≤ x by omega)).symm) ?_
        refine xk_call rfl (p := 86) rfl (by decide) rfl (Nat.le_of_ble_eq_true rfl) (Nat.le_of_ble_eq_true rfl) (xrv (ly_st L hs) (by decide)) (as := [(2, (((5 + 89 * 0) : Nat) : Int)), (0, ((x.toNat : Nat) : Int))]) (r := []) rfl (c_wrongOf (s := 0) L hs hI hR (show x.toNat < 4 by omega) (by omega)) ?_
        rintro _ g v1 ⟨rfl, rfl, hV1, hF1⟩
        replace hV1 : Rep v1 0 m := hV1
        have sWrong_ := sWrong_rng hI (d := x.toNat) (show x.toNat < 4 by omega)
        refine xk_goto rfl ?_
        refine xk_ret rfl (rfl) ?_
        exact zRet (congrArg (fun z => (some ((0, z) : xV), m)) (show y_told m x y = sWrong m (x.toNat) from (by unfold y_told; (repeat' split) <;> first | rfl | (exfalso; omega) | (congr 1; omega)))) hV1 hF1
    refine xk_switch rfl (w := 91) (if_pos (by first | omega | (simp only [List.length]; omega))) ?_
    refine xk_push rfl (p := 92) rfl ?_
    refine xk_ret rfl (rfl) ?_
    exact zRet (congrArg (fun z => (some ((0, z) : xV), m)) (show y_told m x y = (-1) from (by unfold y_told; (repeat' split) <;> first | rfl | (exfalso; omega) | (congr 1; omega)))) hR Fr.rf
  · replace c8_1 : ¬ (0 ≤ x ∧ x < 4 ∧ 0 < m 300 x.toNat) := xb_e1 c8_1
    refine xk_push rfl (p := 12) rfl ?_
    refine xk_ret rfl (rfl) ?_
    exact zRet (congrArg (fun z => (some ((0, z) : xV), m)) (show y_told m x y = (-1) from (by unfold y_told; (repeat' split) <;> first | rfl | (exfalso; omega) | (congr 1; omega)))) hR Fr.rf

theorem place_eq {m : xD} (hI : Inv m) {n : Nat} (hn : n < nN m) : xcnt (fun i => decide ((2 ^ nN m - 1).testBit i = true ∧ kK m i < kK m n)) (nN m) = xcnt (fun q => bBef m q n) (nN m) := by
  have key : ∀ k, k ≤ nN m → xcnt (fun i => decide ((2 ^ nN m - 1).testBit i = true ∧ kK m i < kK m n)) k = xcnt (fun q => bBef m q n) k := by
    intro k
    induction k with
    | zero => intro _; exact (show (0 : Nat) = 0 from rfl)
    | succ k ih =>
      intro hk
      have e := ih (by omega)
      have hb := bBef_key hI (a := k) (b := n) (by omega) hn
      have ht : (2 ^ nN m - 1).testBit k = true := by
        rw [Nat.testBit_two_pow_sub_one]
        exact decide_eq_true (by omega)
      by_cases c : kK m k < kK m n
      · exact (xcnt_in e.symm (decide_eq_true ⟨ht, c⟩)).symm.trans (xcnt_in rfl (hb.mpr c))
      · exact (xcnt_out e.symm (fun h => c (of_decide_eq_true h).2)).symm.trans (xcnt_out rfl (fun h => c (hb.mp h)))
  exact key _ (Nat.le_refl _)
theorem all_names {m : xD} (hI : Inv m) : xsub (xshl 1 ((nN m : Nat) : Int)) 1 = ((2 ^ nN m - 1 : Nat) : Int) := by
  have h := iNn hI
  have p : 2 ^ nN m < 2 ^ 13 := Nat.pow_lt_pow_right (by decide) (by omega)
  have p1 : 1 ≤ 2 ^ nN m := Nat.one_le_two_pow
  rw [xshl_n (by omega), show (1 : Int) = ((1 : Nat) : Int) from rfl, xsub_n (by omega) (by omega)]
theorem c_allNames {d : Nat} {g : xG} {t m : xD} {s : Nat} (L : xLay g) (hs : s < 3) (hI : Inv m) (hR : Rep t s m) : xCall (d) 32 [(2, (((5 + 89 * s) : Nat) : Int))] g t (xQ g t (some (0, ((2 ^ nN m - 1 : Nat) : Int)))) := by
  show xOk (d) 32 0 [(2, (((5 + 89 * s) : Nat) : Int))] [] g t _
  have iNn_ := iNn hI
  refine xk_push rfl (p := 1) rfl ?_
  refine xk_load rfl (p := 2) rfl rfl ?_
  refine xk_getf rfl (p := 5) rfl (xob (ly_st L hs) (by decide)) (v := (0, ((nN m : Nat) : Int))) (xsl0 rfl (rNn hR hI)) ?_
  have iNn_ := iNn hI
  refine xk_bin rfl (p := 6) rfl (z := xshl 1 ((nN m : Nat) : Int)) (rfl) ?_
  refine xk_push rfl (p := 7) rfl ?_
  refine xk_bin rfl (p := 8) rfl (z := xsub (xshl 1 ((nN m : Nat) : Int)) 1) (rfl) ?_
  refine xk_rete rfl (rfl) ?_
  exact all_names hI

theorem all_lt {m : xD} (hI : Inv m) : 2 ^ nN m - 1 < 4096 := by
  have h := iNn hI
  have p : 2 ^ nN m ≤ 2 ^ 12 := Nat.pow_le_pow_right (by decide) h.2
  omega
theorem c_of {d : Nat} {g : xG} {t m : xD} {x y : Int} (L : xLay g) (hI : Inv m) (hR : Rep t 0 m) : xCall (d + 3) 71 [(2, ((2 : Nat) : Int)), (0, x), (0, y)] g t (zQ 0 g t (some (0, y_of m x y), m)) := by
  show xOk (d + 3) 71 0 [(2, ((2 : Nat) : Int)), (0, x), (0, y), (3, 0)] [] g t _
  have iNn_ := iNn hI
  have hs : 0 < 3 := by decide
  have hs1 : 1 < 3 := by decide
  have hs2 : 2 < 3 := by decide
  refine xk_load rfl (p := 1) rfl rfl ?_
  refine xk_getf rfl (p := 4) rfl (xob (ly_x L) (by decide)) (v := (2, (((5 + 89 * 0) : Nat) : Int))) (xsl2 rfl (ly_x1 L)) ?_
  refine xk_load rfl (p := 5) rfl rfl ?_
  refine xk_callp rfl (p := 8) rfl (by decide) rfl (Nat.le_of_ble_eq_true rfl) (Nat.le_of_ble_eq_true rfl) (xrv (ly_st L hs) (by decide)) (as := [(2, (((5 + 89 * 0) : Nat) : Int)), (0, x)]) (r := []) rfl (v := (0, (if 0 ≤ x ∧ x < m 292 0 then (1 : Int) else 0))) (c_isName L hs hI hR) ?_
  have iNn_ := iNn hI
  refine xk_if rfl (p := 11) rfl (fun c8_1 => ?_) (fun c8_1 => ?_)
  · replace c8_1 : 0 ≤ x ∧ x < m 292 0 := xb_n0 c8_1
    refine xk_load rfl (p := 14) rfl rfl ?_
    refine xk_getf rfl (p := 17) rfl (xob (ly_x L) (by decide)) (v := (2, (((5 + 89 * 0) : Nat) : Int))) (xsl2 rfl (ly_x1 L)) ?_
    refine xk_getf rfl (p := 20) rfl (xob (ly_st L hs) (by decide)) (v := (2, (((6 + 89 * 0) : Nat) : Int))) (xsl2 rfl (ly_s0 L hs)) ?_
    refine xk_load rfl (p := 21) rfl rfl ?_
    refine xk_aldi rfl (p := 22) rfl (show 0 ≤ x by omega) (v := (2, (((18 + 89 * 0 + 5 * (x.toNat)) : Nat) : Int))) (xal2 (ly_sn L hs) (by decide) (show x.toNat < 12 by omega) (ly_ne L hs (show x.toNat < 12 by omega))) ?_
    refine xk_store rfl (p := 23) rfl (by decide) (Nat.le_of_ble_eq_true rfl) (ls' := [(2, ((2 : Nat) : Int)), (0, x), (0, y), (2, (((18 + 89 * 0 + 5 * (x.toNat)) : Nat) : Int))]) rfl ?_
    refine xk_load rfl (p := 24) rfl rfl ?_
    by_cases c24_2 : y = 0
    · refine xk_switch rfl (w := 72) (by rw [c24_2]; rfl) ?_
      refine xk_load rfl (p := 73) rfl rfl ?_
      refine xk_getf rfl (p := 76) rfl (xob (ly_x L) (by decide)) (v := (2, (((5 + 89 * 0) : Nat) : Int))) (xsl2 rfl (ly_x1 L)) ?_
      refine xk_load rfl (p := 77) rfl rfl ?_
      refine xk_stk (show _ = (0, ((x.toNat : Nat) : Int)) :: [(2, (((5 + 89 * 0) : Nat) : Int))] from congrArg (fun z => ((0, z) : xV) :: [(2, (((5 + 89 * 0) : Nat) : Int))]) (Int.toNat_of_nonneg (show 0 ≤ x by omega)).symm) ?_
      refine xk_callp rfl (p := 80) rfl (by decide) rfl (Nat.le_of_ble_eq_true rfl) (Nat.le_of_ble_eq_true rfl) (xrv (ly_st L hs) (by decide)) (as := [(2, (((5 + 89 * 0) : Nat) : Int)), (0, ((x.toNat : Nat) : Int))]) (r := []) rfl (v := (0, sVal m (x.toNat))) (xCall_eq (c_valueOf L hs hI hR (show x.toNat < nN m by omega)) cVal_eq) ?_
      refine xk_ret rfl (rfl) ?_
      exact zRet (congrArg (fun z => (some ((0, z) : xV), m)) (show y_of m x y = sVal m (x.toNat) from (by unfold y_of; (repeat' split) <;> first | rfl | (exfalso; omega) | (congr 1; omega)))) hR Fr.rf
    by_cases c24_3 : y = 1
    · refine xk_switch rfl (w := 81) (by rw [c24_3]; rfl) ?_
      refine xk_load rfl (p := 82) rfl rfl ?_
      refine xk_callp rfl (p := 85) rfl (by decide) rfl (Nat.le_of_ble_eq_true rfl) (Nat.le_of_ble_eq_true rfl) (xrv ((ly_nm L hs (show x.toNat < 12 by omega)).1) (by decide)) (as := [(2, (((18 + 89 * 0 + 5 * (x.toNat)) : Nat) : Int))]) (r := []) rfl (v := (0, sSto m (x.toNat))) (c_stored L hs hI hR (show x.toNat < nN m by omega)) ?_
      refine xk_ret rfl (rfl) ?_
      exact zRet (congrArg (fun z => (some ((0, z) : xV), m)) (show y_of m x y = sSto m (x.toNat) from (by unfold y_of; (repeat' split) <;> first | rfl | (exfalso; omega) | (congr 1; omega)))) hR Fr.rf
    by_cases c24_4 : y = 2
    · refine xk_switch rfl (w := 86) (by rw [c24_4]; rfl) ?_
      refine xk_load rfl (p := 87) rfl rfl ?_
      refine xk_getf rfl (p := 90) rfl (xob ((ly_nm L hs (show x.toNat < 12 by omega)).1) (by decide)) (v := (0, m 296 (x.toNat))) (xsl0 rfl (rLoo hR (show x.toNat < nN m by omega))) ?_
      refine xk_ret rfl (rfl) ?_
      exact zRet (congrArg (fun z => (some ((0, z) : xV), m)) (show y_of m x y = m 296 (x.toNat) from (by unfold y_of; (repeat' split) <;> first | rfl | (exfalso; omega) | (congr 1; omega)))) hR Fr.rf
    by_cases c24_5 : y = 3
    · refine xk_switch rfl (w := 91) (by rw [c24_5]; rfl) ?_
      refine xk_load rfl (p := 92) rfl rfl ?_
      refine xk_getf rfl (p := 95) rfl (xob ((ly_nm L hs (show x.toNat < 12 by omega)).1) (by decide)) (v := (0, m 297 (x.toNat))) (xsl0 rfl (rPac hR (show x.toNat < nN m by omega))) ?_
      refine xk_ret rfl (rfl) ?_
      exact zRet (congrArg (fun z => (some ((0, z) : xV), m)) (show y_of m x y = m 297 (x.toNat) from (by unfold y_of; (repeat' split) <;> first | rfl | (exfalso; omega) | (congr 1; omega)))) hR Fr.rf
    by_cases c24_6 : y = 4
    · refine xk_switch rfl (w := 96) (by rw [c24_6]; rfl) ?_
      refine xk_load rfl (p := 97) rfl rfl ?_
      refine xk_getf rfl (p := 100) rfl (xob ((ly_nm L hs (show x.toNat < 12 by omega)).1) (by decide)) (v := (0, m 295 (x.toNat))) (xsl0 rfl (rPar hR (show x.toNat < nN m by omega))) ?_
      refine xk_ret rfl (rfl) ?_
      exact zRet (congrArg (fun z => (some ((0, z) : xV), m)) (show y_of m x y = m 295 (x.toNat) from (by unfold y_of; (repeat' split) <;> first | rfl | (exfalso; omega) | (congr 1; omega)))) hR Fr.rf
    by_cases c24_7 : y = 5
    · refine xk_switch rfl (w := 101) (by rw [c24_7]; rfl) ?_
      refine xk_load rfl (p := 102) rfl rfl ?_
      refine xk_getf rfl (p := 105) rfl (xob ((ly_nm L hs (show x.toNat < 12 by omega)).1) (by decide)) (v := (2, ((((18 + 89 * 0 + 5 * (x.toNat)) + 1) : Nat) : Int))) (xsl2 rfl ((ly_nm L hs (show x.toNat < 12 by omega)).2.2)) ?_
      refine xk_getf rfl (p := 108) rfl (xob ((ly_nm L hs (show x.toNat < 12 by omega)).2.1.1) (by decide)) (v := (0, ((nJ m (x.toNat) : Nat) : Int))) (xsl0 rfl ((rJn hR (show x.toNat < nN m by omega)).trans (iJn hI (show x.toNat < nN m by omega)).1)) ?_
      have iJn_ := iJn hI (show x.toNat < nN m by omega)
      refine xk_ret rfl (rfl) ?_
      exact zRet (congrArg (fun z => (some ((0, z) : xV), m)) (show y_of m x y = ((nJ m (x.toNat) : Nat) : Int) from (by unfold y_of; (repeat' split) <;> first | rfl | (exfalso; omega) | (congr 1; omega)))) hR Fr.rf
    by_cases c24_8 : y = 6
    · refine xk_switch rfl (w := 109) (by rw [c24_8]; rfl) ?_
      refine xk_load rfl (p := 110) rfl rfl ?_
      refine xk_getf rfl (p := 113) rfl (xob (ly_x L) (by decide)) (v := (2, (((5 + 89 * 0) : Nat) : Int))) (xsl2 rfl (ly_x1 L)) ?_
      refine xk_load rfl (p := 114) rfl rfl ?_
      refine xk_callp rfl (p := 117) rfl (by decide) rfl (Nat.le_of_ble_eq_true rfl) (Nat.le_of_ble_eq_true rfl) (xrv (ly_st L hs) (by decide)) (as := [(2, (((5 + 89 * 0) : Nat) : Int)), (0, x)]) (r := []) rfl (v := (0, sLock m x (-1))) (c_lockerOf L hs hI hR) ?_
      refine xk_ret rfl (rfl) ?_
      exact zRet (congrArg (fun z => (some ((0, z) : xV), m)) (show y_of m x y = sLock m x (-1) from (by unfold y_of; (repeat' split) <;> first | rfl | (exfalso; omega) | (congr 1; omega)))) hR Fr.rf
    by_cases c24_9 : y = 7
    · refine xk_switch rfl (w := 118) (by rw [c24_9]; rfl) ?_
      refine xk_load rfl (p := 119) rfl rfl ?_
      refine xk_getf rfl (p := 122) rfl (xob (ly_x L) (by decide)) (v := (2, (((5 + 89 * 0) : Nat) : Int))) (xsl2 rfl (ly_x1 L)) ?_
      refine xk_load rfl (p := 123) rfl rfl ?_
      refine xk_load rfl (p := 124) rfl rfl ?_
      refine xk_getf rfl (p := 127) rfl (xob (ly_x L) (by decide)) (v := (2, (((5 + 89 * 0) : Nat) : Int))) (xsl2 rfl (ly_x1 L)) ?_
      refine xk_callp rfl (p := 130) rfl (by decide) rfl (Nat.le_of_ble_eq_true rfl) (Nat.le_of_ble_eq_true rfl) (xrv (ly_st L hs) (by decide)) (as := [(2, (((5 + 89 * 0) : Nat) : Int))]) (r := [(0, x), (2, (((5 + 89 * 0) : Nat) : Int))]) rfl (v := (0, ((2 ^ nN m - 1 : Nat) : Int))) (c_allNames L hs hI hR) ?_
      have pw_ : 2 ^ nN m < 8192 := Nat.pow_lt_pow_right (m := nN m) (n := 13) (by decide) (by omega)
      have pw2_ := all_lt hI
      refine xk_stk (show _ = (0, ((2 ^ nN m - 1 : Nat) : Int)) :: (0, ((x.toNat : Nat) : Int)) :: [(2, (((5 + 89 * 0) : Nat) : Int))] from congrArg (fun z => ((0, ((2 ^ nN m - 1 : Nat) : Int)) : xV) :: ((0, z) : xV) :: [(2, (((5 + 89 * 0) : Nat) : Int))]) (Int.toNat_of_nonneg (show 0 ≤ x by omega)).symm) ?_
      refine xk_callp rfl (p := 133) rfl (by decide) rfl (Nat.le_of_ble_eq_true rfl) (Nat.le_of_ble_eq_true rfl) (xrv (ly_st L hs) (by decide)) (as := [(2, (((5 + 89 * 0) : Nat) : Int)), (0, ((x.toNat : Nat) : Int)), (0, ((2 ^ nN m - 1 : Nat) : Int))]) (r := []) rfl (v := (0, ((xcnt (fun i => decide ((2 ^ nN m - 1).testBit i = true ∧ kK m i < kK m (x.toNat))) (nN m) : Nat) : Int))) (c_placeAmong L hs hI hR (show x.toNat < nN m by omega) (pw2_)) ?_
      have xcnt_ := xcnt_le (p := fun i => decide ((2 ^ nN m - 1).testBit i = true ∧ kK m i < kK m (x.toNat))) (nN m)
      refine xk_ret rfl (rfl) ?_
      exact zRet (congrArg (fun z => (some ((0, z) : xV), m)) (show y_of m x y = ((xcnt (fun i => decide ((2 ^ nN m - 1).testBit i = true ∧ kK m i < kK m (x.toNat))) (nN m) : Nat) : Int) from (by rw [place_eq hI (by omega)]; unfold y_of; (repeat' split) <;> first | rfl | (exfalso; omega)))) hR Fr.rf
    refine xk_switch rfl (w := 134) (if_pos (by first | omega | (simp only [List.length]; omega))) ?_
    refine xk_push rfl (p := 135) rfl ?_
    refine xk_ret rfl (rfl) ?_
    exact zRet (congrArg (fun z => (some ((0, z) : xV), m)) (show y_of m x y = (-1) from (by unfold y_of; (repeat' split) <;> first | rfl | (exfalso; omega) | (congr 1; omega)))) hR Fr.rf
  · replace c8_1 : ¬ (0 ≤ x ∧ x < m 292 0) := xb_e1 c8_1
    refine xk_push rfl (p := 12) rfl ?_
    refine xk_ret rfl (rfl) ?_
    exact zRet (congrArg (fun z => (some ((0, z) : xV), m)) (show y_of m x y = (-1) from (by unfold y_of; (repeat' split) <;> first | rfl | (exfalso; omega) | (congr 1; omega)))) hR Fr.rf

/-- the text, in the class as in the model -/
def TX (t m : xD) : Prop := t 3 1 = m 292 17 ∧ ∀ i : Nat, (i : Int) < m 292 17 → t 4 i = m 305 i
theorem sBc_dls {m : xD} : sBc (xbs (fun d => decide (0 < m 300 d)) 4) = xcnt (fun d => decide (0 < m 300 d)) 4 := by
  have h : ∀ d, d < 4 → ((xbs (fun d => decide (0 < m 300 d)) 4).testBit d = decide (0 < m 300 d)) := fun d hd => by
    have := @xbs_bit (fun d => decide (0 < m 300 d)) 4 d
    cases e : (xbs (fun d => decide (0 < m 300 d)) 4).testBit d <;> cases e2 : decide (0 < m 300 d) <;> simp_all
  have h2 : ∀ d, 4 ≤ d → (xbs (fun d => decide (0 < m 300 d)) 4).testBit d = false := fun d hd => by
    cases e : (xbs (fun d => decide (0 < m 300 d)) 4).testBit d
    · rfl
    · have := (xbs_bit.mp e).1
      omega
  unfold sBc xcnt
  show xsum _ 12 = xsum _ 4
  simp only [xsum, h 0 (by decide), h 1 (by decide), h 2 (by decide), h 3 (by decide), h2 4 (by decide), h2 5 (by decide), h2 6 (by decide), h2 7 (by decide), h2 8 (by decide), h2 9 (by decide), h2 10 (by decide), h2 11 (by decide)]
  rfl
theorem c_count {d : Nat} {g : xG} {t m : xD} {x : Int} (L : xLay g) (hI : Inv m) (hR : Rep t 0 m) (hX : TX t m) : xCall (d + 1) 102 [(2, ((2 : Nat) : Int)), (0, x)] g t (zQ 0 g t (some (0, y_count m x), m)) := by
  show xOk (d + 1) 102 0 [(2, ((2 : Nat) : Int)), (0, x)] [] g t _
  have iNn_ := iNn hI
  have hs : 0 < 3 := by decide
  have hs1 : 1 < 3 := by decide
  have hs2 : 2 < 3 := by decide
  refine xk_load rfl (p := 1) rfl rfl ?_
  by_cases c1_1 : x = 0
  · refine xk_switch rfl (w := 40) (by rw [c1_1]; rfl) ?_
    refine xk_load rfl (p := 41) rfl rfl ?_
    refine xk_getf rfl (p := 44) rfl (xob (ly_x L) (by decide)) (v := (2, (((5 + 89 * 0) : Nat) : Int))) (xsl2 rfl (ly_x1 L)) ?_
    refine xk_getf rfl (p := 47) rfl (xob (ly_st L hs) (by decide)) (v := (0, ((nN m : Nat) : Int))) (xsl0 rfl (rNn hR hI)) ?_
    have iNn_ := iNn hI
    refine xk_ret rfl (rfl) ?_
    exact zRet (congrArg (fun z => (some ((0, z) : xV), m)) (show y_count m x = ((nN m : Nat) : Int) from (by unfold y_count; (repeat' split) <;> first | rfl | (exfalso; omega) | (congr 1; omega)))) hR Fr.rf
  by_cases c1_2 : x = 1
  · refine xk_switch rfl (w := 48) (by rw [c1_2]; rfl) ?_
    refine xk_load rfl (p := 49) rfl rfl ?_
    refine xk_getf rfl (p := 52) rfl (xob (ly_x L) (by decide)) (v := (2, (((5 + 89 * 0) : Nat) : Int))) (xsl2 rfl (ly_x1 L)) ?_
    refine xk_callp rfl (p := 55) rfl (by decide) rfl (Nat.le_of_ble_eq_true rfl) (Nat.le_of_ble_eq_true rfl) (xrv (ly_st L hs) (by decide)) (as := [(2, (((5 + 89 * 0) : Nat) : Int))]) (r := []) rfl (v := (0, ((xbs (fun i => decide (0 < m 300 i)) (4) : Nat) : Int))) (c_allDeals L hs hI hR) ?_
    have xbs_ := xbs_lt (p := fun i => decide (0 < m 300 i)) (K := 4) (by omega)
    refine xk_callp rfl (p := 58) rfl (by decide) rfl (Nat.le_of_ble_eq_true rfl) (Nat.le_of_ble_eq_true rfl) (rfl) (as := [(0, ((xbs (fun i => decide (0 < m 300 i)) (4) : Nat) : Int))]) (r := []) rfl (v := (0, ((sBc (xbs (fun i => decide (0 < m 300 i)) (4)) : Nat) : Int))) (n_bitCount (xbs_lt (by omega))) ?_
    refine xk_ret rfl (rfl) ?_
    exact zRet (congrArg (fun z => (some ((0, z) : xV), m)) (show y_count m x = ((sBc (xbs (fun i => decide (0 < m 300 i)) (4)) : Nat) : Int) from (by rw [sBc_dls]; unfold y_count; (repeat' split) <;> first | rfl | (exfalso; omega)))) hR Fr.rf
  by_cases c1_3 : x = 2
  · refine xk_switch rfl (w := 59) (by rw [c1_3]; rfl) ?_
    refine xk_load rfl (p := 60) rfl rfl ?_
    refine xk_getf rfl (p := 63) rfl (xob (ly_x L) (by decide)) (v := (2, (((5 + 89 * 0) : Nat) : Int))) (xsl2 rfl (ly_x1 L)) ?_
    refine xk_getf rfl (p := 66) rfl (xob (ly_st L hs) (by decide)) (v := (2, (((8 + 89 * 0) : Nat) : Int))) (xsl2 rfl (ly_s2 L hs)) ?_
    refine xk_getf rfl (p := 69) rfl (xob ((ly_p1 L hs).1) (by decide)) (v := (0, m 292 19)) (xsl0 rfl (rSn hR)) ?_
    have iS_ := iS hI
    refine xk_ret rfl (rfl) ?_
    exact zRet (congrArg (fun z => (some ((0, z) : xV), m)) (show y_count m x = m 292 19 from (by unfold y_count; (repeat' split) <;> first | rfl | (exfalso; omega) | (congr 1; omega)))) hR Fr.rf
  by_cases c1_4 : x = 3
  · refine xk_switch rfl (w := 70) (by rw [c1_4]; rfl) ?_
    refine xk_load rfl (p := 71) rfl rfl ?_
    refine xk_getf rfl (p := 74) rfl (xob (ly_x L) (by decide)) (v := (2, (((5 + 89 * 0) : Nat) : Int))) (xsl2 rfl (ly_x1 L)) ?_
    refine xk_getf rfl (p := 77) rfl (xob (ly_st L hs) (by decide)) (v := (2, (((11 + 89 * 0) : Nat) : Int))) (xsl2 rfl (ly_s3 L hs)) ?_
    refine xk_getf rfl (p := 80) rfl (xob ((ly_p2 L hs).1) (by decide)) (v := (0, m 292 22)) (xsl0 rfl (rLn hR)) ?_
    have iL_ := iL hI
    refine xk_ret rfl (rfl) ?_
    exact zRet (congrArg (fun z => (some ((0, z) : xV), m)) (show y_count m x = m 292 22 from (by unfold y_count; (repeat' split) <;> first | rfl | (exfalso; omega) | (congr 1; omega)))) hR Fr.rf
  by_cases c1_5 : x = 4
  · refine xk_switch rfl (w := 81) (by rw [c1_5]; rfl) ?_
    refine xk_load rfl (p := 82) rfl rfl ?_
    refine xk_getf rfl (p := 85) rfl (xob (ly_x L) (by decide)) (v := (2, (((5 + 89 * 0) : Nat) : Int))) (xsl2 rfl (ly_x1 L)) ?_
    refine xk_getf rfl (p := 88) rfl (xob (ly_st L hs) (by decide)) (v := (2, (((14 + 89 * 0) : Nat) : Int))) (xsl2 rfl (ly_s4 L hs)) ?_
    refine xk_getf rfl (p := 91) rfl (xob ((ly_p3 L hs).1) (by decide)) (v := (0, m 292 25)) (xsl0 rfl (rBn hR)) ?_
    have iB_ := iB hI
    refine xk_ret rfl (rfl) ?_
    exact zRet (congrArg (fun z => (some ((0, z) : xV), m)) (show y_count m x = m 292 25 from (by unfold y_count; (repeat' split) <;> first | rfl | (exfalso; omega) | (congr 1; omega)))) hR Fr.rf
  by_cases c1_6 : x = 5
  · refine xk_switch rfl (w := 92) (by rw [c1_6]; rfl) ?_
    refine xk_load rfl (p := 93) rfl rfl ?_
    refine xk_getf rfl (p := 96) rfl (xob (ly_x L) (by decide)) (v := (2, ((3 : Nat) : Int))) (xsl2 rfl (ly_x0 L)) ?_
    refine xk_getf rfl (p := 99) rfl (xob ((ly_tx L).1) (by decide)) (v := (0, m 292 17)) (xsl0 rfl (hX.1)) ?_
    refine xk_ret rfl (rfl) ?_
    exact zRet (congrArg (fun z => (some ((0, z) : xV), m)) (show y_count m x = m 292 17 from (by unfold y_count; (repeat' split) <;> first | rfl | (exfalso; omega) | (congr 1; omega)))) hR Fr.rf
  refine xk_switch rfl (w := 100) (if_pos (by first | omega | (simp only [List.length]; omega))) ?_
  refine xk_push rfl (p := 102) rfl ?_
  refine xk_ret rfl (rfl) ?_
  exact zRet (congrArg (fun z => (some ((0, z) : xV), m)) (show y_count m x = (-2) from (by unfold y_count; (repeat' split) <;> first | rfl | (exfalso; omega) | (congr 1; omega)))) hR Fr.rf
