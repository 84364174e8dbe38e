/-! THE CLASS: READS OF THE LAW, SMALL WRITES -/
theorem c_folder {d : Nat} {g : xG} {t m : xD} {x y : Int} (L : xLay g) (hI : Inv m) (hR : Rep t 0 m) : xCall (d + 1) 72 [(2, ((2 : Nat) : Int)), (0, x), (0, y)] g t (zQ 0 g t (some (0, y_folder m x y), m)) := by
  show xOk (d + 1) 72 0 [(2, ((2 : Nat) : Int)), (0, x), (0, y)] [] g t _
  have iNn_ := iNn hI
  have hs : 0 < 3 := by decide
  refine xk_load rfl (p := 1) rfl rfl ?_
  refine xk_getf rfl (p := 4) rfl (xob (ly_x L) (by decide)) (v := (2, (((5 + 89 * 0) : Nat) : Int))) (xsl2 rfl (ly_x1 L)) ?_
  refine xk_load rfl (p := 5) rfl rfl ?_
  refine xk_callp rfl (p := 8) rfl (by decide) rfl (Nat.le_of_ble_eq_true rfl) (Nat.le_of_ble_eq_true rfl) (xrv (ly_st L (by decide)) (by decide)) (as := [(2, (((5 + 89 * 0) : Nat) : Int)), (0, x)]) (r := []) rfl (v := (0, (if 0 ≤ x ∧ x < m 292 0 then (1 : Int) else 0))) (c_isName L hs hI hR) ?_
  have iNn_ := iNn hI
  refine xk_if rfl (p := 11) rfl (fun c8_1 => ?_) (fun c8_1 => ?_)
  · replace c8_1 : ¬ (0 ≤ x ∧ x < m 292 0) := xb_e0 c8_1
    refine xk_push rfl (p := 23) rfl ?_
    refine xk_ret rfl (rfl) ?_
    exact zRet (congrArg (fun z => (some ((0, z) : xV), m)) (show y_folder m x y = (-1) from (by unfold y_folder; (repeat' split) <;> first | rfl | (exfalso; omega)))) hR Fr.rf
  · replace c8_1 : 0 ≤ x ∧ x < m 292 0 := xb_n0 c8_1
    refine xk_load rfl (p := 12) rfl rfl ?_
    refine xk_getf rfl (p := 15) rfl (xob (ly_x L) (by decide)) (v := (2, (((5 + 89 * 0) : Nat) : Int))) (xsl2 rfl (ly_x1 L)) ?_
    refine xk_load rfl (p := 16) rfl rfl ?_
    refine xk_callp rfl (p := 19) rfl (by decide) rfl (Nat.le_of_ble_eq_true rfl) (Nat.le_of_ble_eq_true rfl) (xrv (ly_st L (by decide)) (by decide)) (as := [(2, (((5 + 89 * 0) : Nat) : Int)), (0, y)]) (r := []) rfl (v := (0, (if 0 ≤ y ∧ y < m 292 0 then (1 : Int) else 0))) (c_isName L hs hI hR) ?_
    have iNn_ := iNn hI
    refine xk_if rfl (p := 22) rfl (fun c19_2 => ?_) (fun c19_2 => ?_)
    · replace c19_2 : 0 ≤ y ∧ y < m 292 0 := xb_n0 c19_2
      refine xk_load rfl (p := 25) rfl rfl ?_
      refine xk_getf rfl (p := 28) rfl (xob (ly_x L) (by decide)) (v := (2, (((5 + 89 * 0) : Nat) : Int))) (xsl2 rfl (ly_x1 L)) ?_
      refine xk_getf rfl (p := 31) rfl (xob (ly_st L (by decide)) (by decide)) (v := (2, (((6 + 89 * 0) : Nat) : Int))) (xsl2 rfl (ly_s0 L (by decide))) ?_
      refine xk_load rfl (p := 32) rfl rfl ?_
      refine xk_aldi rfl (p := 33) rfl (show 0 ≤ x by omega) (v := (2, (((18 + 89 * 0 + 5 * (x.toNat)) : Nat) : Int))) (xal2 (ly_sn L (by decide)) (by decide) (show x.toNat < 12 by omega) (ly_ne L (by decide) (show x.toNat < 12 by omega))) ?_
      refine xk_load rfl (p := 34) rfl rfl ?_
      refine xk_getf rfl (p := 37) rfl (xob (ly_x L) (by decide)) (v := (2, (((5 + 89 * 0) : Nat) : Int))) (xsl2 rfl (ly_x1 L)) ?_
      refine xk_getf rfl (p := 40) rfl (xob (ly_st L (by decide)) (by decide)) (v := (2, (((6 + 89 * 0) : Nat) : Int))) (xsl2 rfl (ly_s0 L (by decide))) ?_
      refine xk_load rfl (p := 41) rfl rfl ?_
      refine xk_aldi rfl (p := 42) rfl (show 0 ≤ y by omega) (v := (2, (((18 + 89 * 0 + 5 * (y.toNat)) : Nat) : Int))) (xal2 (ly_sn L (by decide)) (by decide) (show y.toNat < 12 by omega) (ly_ne L (by decide) (show y.toNat < 12 by omega))) ?_
      refine xk_callp rfl (p := 45) rfl (by decide) rfl (Nat.le_of_ble_eq_true rfl) (Nat.le_of_ble_eq_true rfl) (xrv ((ly_nm L (by decide) (show x.toNat < 12 by omega)).1) (by decide)) (as := [(2, (((18 + 89 * 0 + 5 * (x.toNat)) : Nat) : Int)), (2, (((18 + 89 * 0 + 5 * (y.toNat)) : Nat) : Int))]) (r := []) rfl (v := (0, (if bFol m (x.toNat) (y.toNat) = true then (1 : Int) else 0))) (c_isFolderOf L hs hI hR (show x.toNat < nN m by omega) (show y.toNat < nN m by omega)) ?_
      refine xk_if rfl (p := 48) rfl (fun c45_3 => ?_) (fun c45_3 => ?_)
      · replace c45_3 : ¬ (bFol m (x.toNat) (y.toNat) = true) := xb_e0 c45_3
        refine xk_push rfl (p := 53) rfl ?_
        refine xk_ret rfl (rfl) ?_
        exact zRet (congrArg (fun z => (some ((0, z) : xV), m)) (show y_folder m x y = 0 from (by unfold y_folder; (repeat' split) <;> first | rfl | (exfalso; omega)))) hR Fr.rf
      · replace c45_3 : bFol m (x.toNat) (y.toNat) = true := xb_n0 c45_3
        refine xk_push rfl (p := 49) rfl ?_
        refine xk_goto rfl ?_
        refine xk_ret rfl (rfl) ?_
        exact zRet (congrArg (fun z => (some ((0, z) : xV), m)) (show y_folder m x y = 1 from (by unfold y_folder; (repeat' split) <;> first | rfl | (exfalso; omega)))) hR Fr.rf
    · replace c19_2 : ¬ (0 ≤ y ∧ y < m 292 0) := xb_e1 c19_2
      refine xk_push rfl (p := 23) rfl ?_
      refine xk_ret rfl (rfl) ?_
      exact zRet (congrArg (fun z => (some ((0, z) : xV), m)) (show y_folder m x y = (-1) from (by unfold y_folder; (repeat' split) <;> first | rfl | (exfalso; omega)))) hR Fr.rf

theorem c_journal {d : Nat} {g : xG} {t m : xD} {x y z : Int} (L : xLay g) (hI : Inv m) (hR : Rep t 0 m) : xCall (d + 1) 74 [(2, ((2 : Nat) : Int)), (0, x), (0, y), (0, z)] g t (zQ 0 g t (some (0, y_journal m x y z), m)) := by
  show xOk (d + 1) 74 0 [(2, ((2 : Nat) : Int)), (0, x), (0, y), (0, z), (3, 0)] [] g t _
  have iNn_ := iNn hI
  have hs : 0 < 3 := by decide
  refine xk_load rfl (p := 1) rfl rfl ?_
  refine xk_getf rfl (p := 4) rfl (xob (ly_x L) (by decide)) (v := (2, (((5 + 89 * 0) : Nat) : Int))) (xsl2 rfl (ly_x1 L)) ?_
  refine xk_load rfl (p := 5) rfl rfl ?_
  refine xk_callp rfl (p := 8) rfl (by decide) rfl (Nat.le_of_ble_eq_true rfl) (Nat.le_of_ble_eq_true rfl) (xrv (ly_st L (by decide)) (by decide)) (as := [(2, (((5 + 89 * 0) : Nat) : Int)), (0, x)]) (r := []) rfl (v := (0, (if 0 ≤ x ∧ x < m 292 0 then (1 : Int) else 0))) (c_isName L hs hI hR) ?_
  have iNn_ := iNn hI
  refine xk_if rfl (p := 11) rfl (fun c8_1 => ?_) (fun c8_1 => ?_)
  · replace c8_1 : 0 ≤ x ∧ x < m 292 0 := xb_n0 c8_1
    refine xk_load rfl (p := 14) rfl rfl ?_
    refine xk_getf rfl (p := 17) rfl (xob (ly_x L) (by decide)) (v := (2, (((5 + 89 * 0) : Nat) : Int))) (xsl2 rfl (ly_x1 L)) ?_
    refine xk_getf rfl (p := 20) rfl (xob (ly_st L (by decide)) (by decide)) (v := (2, (((6 + 89 * 0) : Nat) : Int))) (xsl2 rfl (ly_s0 L (by decide))) ?_
    refine xk_load rfl (p := 21) rfl rfl ?_
    refine xk_aldi rfl (p := 22) rfl (show 0 ≤ x by omega) (v := (2, (((18 + 89 * 0 + 5 * (x.toNat)) : Nat) : Int))) (xal2 (ly_sn L (by decide)) (by decide) (show x.toNat < 12 by omega) (ly_ne L (by decide) (show x.toNat < 12 by omega))) ?_
    refine xk_getf rfl (p := 25) rfl (xob ((ly_nm L (by decide) (show x.toNat < 12 by omega)).1) (by decide)) (v := (2, ((((18 + 89 * 0 + 5 * (x.toNat)) + 1) : Nat) : Int))) (xsl2 rfl ((ly_nm L (by decide) (show x.toNat < 12 by omega)).2.2)) ?_
    refine xk_store rfl (p := 27) rfl (by decide) (Nat.le_of_ble_eq_true rfl) (ls' := [(2, ((2 : Nat) : Int)), (0, x), (0, y), (0, z), (2, ((((18 + 89 * 0 + 5 * (x.toNat)) + 1) : Nat) : Int))]) rfl ?_
    refine xk_load rfl (p := 28) rfl rfl ?_
    refine xk_if rfl (p := 31) rfl (fun c28_2 => ?_) (fun c28_2 => ?_)
    · replace c28_2 : y < 0 := c28_2
      refine xk_push rfl (p := 41) rfl ?_
      refine xk_ret rfl (rfl) ?_
      exact zRet (congrArg (fun z => (some ((0, z) : xV), m)) (show y_journal m x y z = (-1) from (by unfold y_journal; (repeat' split) <;> first | rfl | (exfalso; omega)))) hR Fr.rf
    · replace c28_2 : ¬ (y < 0) := c28_2
      refine xk_load rfl (p := 32) rfl rfl ?_
      refine xk_load rfl (p := 34) rfl rfl ?_
      refine xk_getf rfl (p := 37) rfl (xob ((ly_nm L (by decide) (show x.toNat < 12 by omega)).2.1.1) (by decide)) (v := (0, ((nJ m (x.toNat) : Nat) : Int))) (xsl0 rfl ((rJn hR (show x.toNat < nN m by omega)).trans (iJn hI (show x.toNat < nN m by omega)).1)) ?_
      have iJn_ := iJn hI (show x.toNat < nN m by omega)
      refine xk_icmp rfl (p := 40) rfl (fun c37_3 => ?_) (fun c37_3 => ?_)
      · replace c37_3 : y < ((nJ m (x.toNat) : Nat) : Int) := c37_3
        refine xk_load rfl (p := 43) rfl rfl ?_
        by_cases c43_4 : z = 0
        · refine xk_switch rfl (w := 68) (by rw [c43_4]; rfl) ?_
          refine xk_load rfl (p := 70) rfl rfl ?_
          refine xk_getf rfl (p := 73) rfl (xob ((ly_nm L (by decide) (show x.toNat < 12 by omega)).2.1.1) (by decide)) (v := (2, (((((18 + 89 * 0 + 5 * (x.toNat)) + 1) + 1) : Nat) : Int))) (xsl2 rfl ((ly_nm L (by decide) (show x.toNat < 12 by omega)).2.1.2.2.2.2.1)) ?_
          refine xk_load rfl (p := 74) rfl rfl ?_
          refine xk_aldi rfl (p := 75) rfl (show 0 ≤ y by omega) (v := (0, m 299 (18 * (x.toNat) + 3 * (y.toNat)))) ((xal0 ((ly_nm L (by decide) (show x.toNat < 12 by omega)).2.1.2.1) (show y.toNat < 6 by omega)).trans (congrArg (fun z => some (0, z)) (rJ1 hR (show x.toNat < nN m by omega) (show ((y.toNat : Nat) : Int) < m 298 (x.toNat) by omega)))) ?_
          refine xk_ret rfl (rfl) ?_
          exact zRet (congrArg (fun z => (some ((0, z) : xV), m)) (show y_journal m x y z = m 299 (18 * (x.toNat) + 3 * (y.toNat)) from (by unfold y_journal; (repeat' split) <;> first | rfl | (exfalso; omega)))) hR Fr.rf
        by_cases c43_5 : z = 1
        · refine xk_switch rfl (w := 76) (by rw [c43_5]; rfl) ?_
          refine xk_load rfl (p := 78) rfl rfl ?_
          refine xk_getf rfl (p := 81) rfl (xob ((ly_nm L (by decide) (show x.toNat < 12 by omega)).2.1.1) (by decide)) (v := (2, (((((18 + 89 * 0 + 5 * (x.toNat)) + 1) + 2) : Nat) : Int))) (xsl2 rfl ((ly_nm L (by decide) (show x.toNat < 12 by omega)).2.1.2.2.2.2.2.1)) ?_
          refine xk_load rfl (p := 82) rfl rfl ?_
          refine xk_aldi rfl (p := 83) rfl (show 0 ≤ y by omega) (v := (0, m 299 (18 * (x.toNat) + 3 * (y.toNat) + 1))) ((xal0 ((ly_nm L (by decide) (show x.toNat < 12 by omega)).2.1.2.2.1) (show y.toNat < 6 by omega)).trans (congrArg (fun z => some (0, z)) (rJ2 hR (show x.toNat < nN m by omega) (show ((y.toNat : Nat) : Int) < m 298 (x.toNat) by omega)))) ?_
          refine xk_ret rfl (rfl) ?_
          exact zRet (congrArg (fun z => (some ((0, z) : xV), m)) (show y_journal m x y z = m 299 (18 * (x.toNat) + 3 * (y.toNat) + 1) from (by unfold y_journal; (repeat' split) <;> first | rfl | (exfalso; omega)))) hR Fr.rf
        by_cases c43_6 : z = 2
        · refine xk_switch rfl (w := 84) (by rw [c43_6]; rfl) ?_
          refine xk_load rfl (p := 86) rfl rfl ?_
          refine xk_getf rfl (p := 89) rfl (xob ((ly_nm L (by decide) (show x.toNat < 12 by omega)).2.1.1) (by decide)) (v := (2, (((((18 + 89 * 0 + 5 * (x.toNat)) + 1) + 3) : Nat) : Int))) (xsl2 rfl ((ly_nm L (by decide) (show x.toNat < 12 by omega)).2.1.2.2.2.2.2.2)) ?_
          refine xk_load rfl (p := 90) rfl rfl ?_
          refine xk_aldi rfl (p := 91) rfl (show 0 ≤ y by omega) (v := (0, m 299 (18 * (x.toNat) + 3 * (y.toNat) + 2))) ((xal0 ((ly_nm L (by decide) (show x.toNat < 12 by omega)).2.1.2.2.2.1) (show y.toNat < 6 by omega)).trans (congrArg (fun z => some (0, z)) (rJ3 hR (show x.toNat < nN m by omega) (show ((y.toNat : Nat) : Int) < m 298 (x.toNat) by omega)))) ?_
          refine xk_ret rfl (rfl) ?_
          exact zRet (congrArg (fun z => (some ((0, z) : xV), m)) (show y_journal m x y z = m 299 (18 * (x.toNat) + 3 * (y.toNat) + 2) from (by unfold y_journal; (repeat' split) <;> first | rfl | (exfalso; omega)))) hR Fr.rf
        refine xk_switch rfl (w := 92) (if_pos (by first | omega | (simp only [List.length]; omega))) ?_
        refine xk_push rfl (p := 93) rfl ?_
        refine xk_ret rfl (rfl) ?_
        exact zRet (congrArg (fun z => (some ((0, z) : xV), m)) (show y_journal m x y z = (-1) from (by unfold y_journal; (repeat' split) <;> first | rfl | (exfalso; omega)))) hR Fr.rf
      · replace c37_3 : ¬ (y < ((nJ m (x.toNat) : Nat) : Int)) := c37_3
        refine xk_push rfl (p := 41) rfl ?_
        refine xk_ret rfl (rfl) ?_
        exact zRet (congrArg (fun z => (some ((0, z) : xV), m)) (show y_journal m x y z = (-1) from (by unfold y_journal; (repeat' split) <;> first | rfl | (exfalso; omega)))) hR Fr.rf
  · replace c8_1 : ¬ (0 ≤ x ∧ x < m 292 0) := xb_e1 c8_1
    refine xk_push rfl (p := 12) rfl ?_
    refine xk_ret rfl (rfl) ?_
    exact zRet (congrArg (fun z => (some ((0, z) : xV), m)) (show y_journal m x y z = (-1) from (by unfold y_journal; (repeat' split) <;> first | rfl | (exfalso; omega)))) hR Fr.rf

theorem c_looked {d : Nat} {g : xG} {t m : xD} (L : xLay g) (hI : Inv m) (hR : Rep t 0 m) : xCall (d + 2) 97 [(2, ((2 : Nat) : Int))] g t (zQ 0 g t (some (0, y_looked m ), m)) := by
  show xOk (d + 2) 97 0 [(2, ((2 : Nat) : Int)), (3, 0)] [] g t _
  have iNn_ := iNn hI
  have hs : 0 < 3 := by decide
  refine xk_push rfl (p := 1) rfl ?_
  refine xk_store rfl (p := 2) rfl (by decide) (Nat.le_of_ble_eq_true rfl) (ls' := [(2, ((2 : Nat) : Int)), (0, 0)]) rfl ?_
  have lp1 : ∀ k : Nat, k ≤ (m 292 25).toNat → (∀ i, i < k → ¬ ¬ sVal m (m 310 i).toNat = m 311 i) → xOk (d + 2) 97 2 [(2, ((2 : Nat) : Int)), (0, ((k : Nat) : Int))] [] g t (zQ 0 g t (some (0, y_looked m ), m)) := by
    refine xk_up ((m 292 25).toNat) (fun k hkk ih1  hi1 => ?_)
    refine xk_load rfl (p := 3) rfl rfl ?_
    refine xk_load rfl (p := 4) rfl rfl ?_
    refine xk_getf rfl (p := 7) rfl (xob (ly_x L) (by decide)) (v := (2, (((5 + 89 * 0) : Nat) : Int))) (xsl2 rfl (ly_x1 L)) ?_
    refine xk_getf rfl (p := 10) rfl (xob (ly_st L (by decide)) (by decide)) (v := (2, (((14 + 89 * 0) : Nat) : Int))) (xsl2 rfl (ly_s4 L (by decide))) ?_
    refine xk_getf rfl (p := 13) rfl (xob ((ly_p3 L (by decide)).1) (by decide)) (v := (0, m 292 25)) (xsl0 rfl (rBn hR)) ?_
    have iB_ := iB hI
    refine xk_icmp rfl (p := 16) rfl (fun c13_2 => ?_) (fun c13_2 => ?_)
    · replace c13_2 : m 292 25 ≤ ((k : Nat) : Int) := c13_2
      refine xk_push rfl (p := 60) rfl ?_
      refine xk_ret rfl (rfl) ?_
      exact zRet (congrArg (fun z => (some ((0, z) : xV), m)) (show y_looked m  = (-5) from (xiyf0 (by omega) hi1).symm)) hR Fr.rf
    · replace c13_2 : ¬ (m 292 25 ≤ ((k : Nat) : Int)) := c13_2
      refine xk_load rfl (p := 17) rfl rfl ?_
      refine xk_getf rfl (p := 20) rfl (xob (ly_x L) (by decide)) (v := (2, (((5 + 89 * 0) : Nat) : Int))) (xsl2 rfl (ly_x1 L)) ?_
      refine xk_load rfl (p := 21) rfl rfl ?_
      refine xk_getf rfl (p := 24) rfl (xob (ly_x L) (by decide)) (v := (2, (((5 + 89 * 0) : Nat) : Int))) (xsl2 rfl (ly_x1 L)) ?_
      refine xk_getf rfl (p := 27) rfl (xob (ly_st L (by decide)) (by decide)) (v := (2, (((14 + 89 * 0) : Nat) : Int))) (xsl2 rfl (ly_s4 L (by decide))) ?_
      refine xk_getf rfl (p := 30) rfl (xob ((ly_p3 L (by decide)).1) (by decide)) (v := (2, ((((14 + 89 * 0) + 1) : Nat) : Int))) (xsl2 rfl ((ly_p3 L (by decide)).2.2.2.1)) ?_
      refine xk_load rfl (p := 31) rfl rfl ?_
      refine xk_ald rfl (p := 32) rfl (v := (0, m 310 k)) ((xal0 ((ly_p3 L (by decide)).2.1) (show k < 10 by omega)).trans (congrArg (fun z => some (0, z)) (rB1 hR (show ((k : Nat) : Int) < m 292 25 by omega)))) ?_
      have iB_ := (iB hI).2.2 k (show ((k : Nat) : Int) < m 292 25 by omega)
      refine xk_stk (show _ = (0, (((m 310 k).toNat : Nat) : Int)) :: [(2, (((5 + 89 * 0) : Nat) : Int))] from congrArg (fun z => ((0, z) : xV) :: [(2, (((5 + 89 * 0) : Nat) : Int))]) (Int.toNat_of_nonneg (show 0 ≤ m 310 k by omega)).symm) ?_
      refine xk_callp rfl (p := 35) rfl (by decide) rfl (Nat.le_of_ble_eq_true rfl) (Nat.le_of_ble_eq_true rfl) (xrv (ly_st L (by decide)) (by decide)) (as := [(2, (((5 + 89 * 0) : Nat) : Int)), (0, (((m 310 k).toNat : Nat) : Int))]) (r := []) rfl (v := (0, sVal m ((m 310 k).toNat))) (xCall_eq (c_valueOf L hs hI hR (show (m 310 k).toNat < nN m by omega)) cVal_eq) ?_
      refine xk_load rfl (p := 36) rfl rfl ?_
      refine xk_getf rfl (p := 39) rfl (xob (ly_x L) (by decide)) (v := (2, (((5 + 89 * 0) : Nat) : Int))) (xsl2 rfl (ly_x1 L)) ?_
      refine xk_getf rfl (p := 42) rfl (xob (ly_st L (by decide)) (by decide)) (v := (2, (((14 + 89 * 0) : Nat) : Int))) (xsl2 rfl (ly_s4 L (by decide))) ?_
      refine xk_getf rfl (p := 45) rfl (xob ((ly_p3 L (by decide)).1) (by decide)) (v := (2, ((((14 + 89 * 0) + 2) : Nat) : Int))) (xsl2 rfl ((ly_p3 L (by decide)).2.2.2.2)) ?_
      refine xk_load rfl (p := 46) rfl rfl ?_
      refine xk_ald rfl (p := 47) rfl (v := (0, m 311 k)) ((xal0 ((ly_p3 L (by decide)).2.2.1) (show k < 10 by omega)).trans (congrArg (fun z => some (0, z)) (rB2 hR (show ((k : Nat) : Int) < m 292 25 by omega)))) ?_
      refine xk_icmp rfl (p := 50) rfl (fun c47_3 => ?_) (fun c47_3 => ?_)
      · replace c47_3 : sVal m ((m 310 k).toNat) = m 311 k := c47_3
        refine xk_inc1 rfl (p := 55) rfl (n := k) rfl (by omega) (ls' := [(2, ((2 : Nat) : Int)), (0, ((k + 1 : Nat) : Int))]) rfl ?_
        refine xk_goto rfl ?_
        exact ih1 (by omega)  (by exact xall_up hi1 (by omega))
      · replace c47_3 : ¬ (sVal m ((m 310 k).toNat) = m 311 k) := c47_3
        refine xk_load rfl (p := 51) rfl rfl ?_
        refine xk_ret rfl (rfl) ?_
        exact zRet (congrArg (fun z => (some ((0, z) : xV), m)) (show y_looked m  = ((k : Nat) : Int) from (xiyf1 (by omega) hi1 (by assumption)).symm)) hR Fr.rf
  exact lp1 0 (by omega)  (by intro i h; omega)
