/-! THE CLASS: SMALL WRITES -/
theorem c_isRevision {d : Nat} {g : xG} {t : xD} {x : Int}  : xCall (d) 109 [(0, x)] g t (xQ g t (some (0, if 0 ≤ x ∧ x ≤ 999 then (1 : Int) else 0))) := by
  show xOk (d) 109 0 [(0, x)] [] g t _
  refine xk_load rfl (p := 1) rfl rfl ?_
  refine xk_if rfl (p := 4) rfl (fun c1_1 => ?_) (fun c1_1 => ?_)
  · replace c1_1 : x < 0 := c1_1
    refine xk_push rfl (p := 16) rfl ?_
    refine xk_rete rfl (rfl) ?_
    exact (if_neg (by omega)).symm
  · replace c1_1 : ¬ (x < 0) := c1_1
    refine xk_load rfl (p := 5) rfl rfl ?_
    refine xk_push rfl (p := 8) rfl ?_
    refine xk_icmp rfl (p := 11) rfl (fun c8_2 => ?_) (fun c8_2 => ?_)
    · replace c8_2 : 999 < x := c8_2
      refine xk_push rfl (p := 16) rfl ?_
      refine xk_rete rfl (rfl) ?_
      exact (if_neg (by omega)).symm
    · replace c8_2 : ¬ (999 < x) := c8_2
      refine xk_push rfl (p := 12) rfl ?_
      refine xk_goto rfl ?_
      refine xk_rete rfl (rfl) ?_
      exact (if_pos (by omega)).symm

theorem c_isTape {d : Nat} {g : xG} {t : xD} {x : Int}  : xCall (d) 110 [(0, x)] g t (xQ g t (some (0, if 0 ≤ x ∧ x ≤ 5 then (1 : Int) else 0))) := by
  show xOk (d) 110 0 [(0, x)] [] g t _
  refine xk_load rfl (p := 1) rfl rfl ?_
  refine xk_if rfl (p := 4) rfl (fun c1_1 => ?_) (fun c1_1 => ?_)
  · replace c1_1 : x < 0 := c1_1
    refine xk_push rfl (p := 15) rfl ?_
    refine xk_rete rfl (rfl) ?_
    exact (if_neg (by omega)).symm
  · replace c1_1 : ¬ (x < 0) := c1_1
    refine xk_load rfl (p := 5) rfl rfl ?_
    refine xk_push rfl (p := 7) rfl ?_
    refine xk_icmp rfl (p := 10) rfl (fun c7_2 => ?_) (fun c7_2 => ?_)
    · replace c7_2 : 6 ≤ x := c7_2
      refine xk_push rfl (p := 15) rfl ?_
      refine xk_rete rfl (rfl) ?_
      exact (if_neg (by omega)).symm
    · replace c7_2 : ¬ (6 ≤ x) := c7_2
      refine xk_push rfl (p := 11) rfl ?_
      refine xk_goto rfl ?_
      refine xk_rete rfl (rfl) ?_
      exact (if_pos (by omega)).symm

theorem c_put {d : Nat} {g : xG} {t m : xD} {x y z w : Int} (L : xLay g) (hI : Inv m) (hR : Rep t 0 m) : xCall (d + 1) 78 [(2, ((2 : Nat) : Int)), (0, x), (0, y), (0, z), (0, w)] g t (zQ 0 g t (y_put m x y z w)) := by
  show xOk (d + 1) 78 0 [(2, ((2 : Nat) : Int)), (0, x), (0, y), (0, z), (0, w), (3, 0)] [] g t _
  have iNn_ := iNn hI
  have hs : 0 < 3 := by decide
  have hs1 : 1 < 3 := by decide
  have hs2 : 2 < 3 := by decide
  refine xk_load rfl (p := 1) rfl rfl ?_
  refine xk_getf rfl (p := 4) rfl (xob (ly_x L) (by decide)) (v := (2, (((5 + 89 * 0) : Nat) : Int))) (xsl2 rfl (ly_x1 L)) ?_
  refine xk_load rfl (p := 5) rfl rfl ?_
  refine xk_callp rfl (p := 8) rfl (by decide) rfl (Nat.le_of_ble_eq_true rfl) (Nat.le_of_ble_eq_true rfl) (xrv (ly_st L hs) (by decide)) (as := [(2, (((5 + 89 * 0) : Nat) : Int)), (0, x)]) (r := []) rfl (v := (0, (if 0 ≤ x ∧ x < 4 ∧ 0 < m 300 x.toNat then (1 : Int) else 0))) (c_isDeal L hs hI hR) ?_
  refine xk_if rfl (p := 11) rfl (fun c8_1 => ?_) (fun c8_1 => ?_)
  · replace c8_1 : ¬ (0 ≤ x ∧ x < 4 ∧ 0 < m 300 x.toNat) := xb_e0 c8_1
    refine xk_push rfl (p := 23) rfl ?_
    refine xk_ret rfl (rfl) ?_
    exact zRet (show y_put m x y z w = (some (0, (-1)), m) from (by unfold y_put; (repeat' split) <;> first | rfl | (exfalso; omega) | (congr 1; omega))) hR Fr.rf
  · replace c8_1 : 0 ≤ x ∧ x < 4 ∧ 0 < m 300 x.toNat := xb_n0 c8_1
    refine xk_load rfl (p := 12) rfl rfl ?_
    refine xk_getf rfl (p := 15) rfl (xob (ly_x L) (by decide)) (v := (2, (((5 + 89 * 0) : Nat) : Int))) (xsl2 rfl (ly_x1 L)) ?_
    refine xk_load rfl (p := 16) rfl rfl ?_
    refine xk_callp rfl (p := 19) rfl (by decide) rfl (Nat.le_of_ble_eq_true rfl) (Nat.le_of_ble_eq_true rfl) (xrv (ly_st L hs) (by decide)) (as := [(2, (((5 + 89 * 0) : Nat) : Int)), (0, y)]) (r := []) rfl (v := (0, (if 0 ≤ y ∧ y < m 292 0 then (1 : Int) else 0))) (c_isName L hs hI hR) ?_
    have iNn_ := iNn hI
    refine xk_if rfl (p := 22) rfl (fun c19_2 => ?_) (fun c19_2 => ?_)
    · replace c19_2 : 0 ≤ y ∧ y < m 292 0 := xb_n0 c19_2
      refine xk_load rfl (p := 25) rfl rfl ?_
      refine xk_push rfl (p := 26) rfl ?_
      refine xk_icmp rfl (p := 29) rfl (fun c26_3 => ?_) (fun c26_3 => ?_)
      · replace c26_3 : z = (-1) := c26_3
        refine xk_load rfl (p := 38) rfl rfl ?_
        refine xk_callp rfl (p := 41) rfl (by decide) rfl (Nat.le_of_ble_eq_true rfl) (Nat.le_of_ble_eq_true rfl) (rfl) (as := [(0, w)]) (r := []) rfl (v := (0, (if 0 ≤ w ∧ w ≤ 999 then (1 : Int) else 0))) (c_isRevision) ?_
        refine xk_if rfl (p := 44) rfl (fun c41_4 => ?_) (fun c41_4 => ?_)
        · replace c41_4 : 0 ≤ w ∧ w ≤ 999 := xb_n0 c41_4
          refine xk_load rfl (p := 48) rfl rfl ?_
          refine xk_getf rfl (p := 51) rfl (xob (ly_x L) (by decide)) (v := (2, (((5 + 89 * 0) : Nat) : Int))) (xsl2 rfl (ly_x1 L)) ?_
          refine xk_getf rfl (p := 54) rfl (xob (ly_st L hs) (by decide)) (v := (2, (((7 + 89 * 0) : Nat) : Int))) (xsl2 rfl (ly_s1 L hs)) ?_
          refine xk_load rfl (p := 55) rfl rfl ?_
          refine xk_aldi rfl (p := 56) rfl (show 0 ≤ x by omega) (v := (2, (((78 + 89 * 0 + 4 * (x.toNat)) : Nat) : Int))) (xal2 (ly_sd L hs) (by decide) (show x.toNat < 4 by omega) (ly_de L hs (show x.toNat < 4 by omega))) ?_
          refine xk_store rfl (p := 58) rfl (by decide) (Nat.le_of_ble_eq_true rfl) (ls' := [(2, ((2 : Nat) : Int)), (0, x), (0, y), (0, z), (0, w), (2, (((78 + 89 * 0 + 4 * (x.toNat)) : Nat) : Int))]) rfl ?_
          refine xk_load rfl (p := 60) rfl rfl ?_
          refine xk_getf rfl (p := 63) rfl (xob ((ly_dl L hs (show x.toNat < 4 by omega)).1) (by decide)) (v := (0, sPha m (x.toNat))) (xsl0 rfl (rPha hR (show x.toNat < 4 by omega))) ?_
          have sPha_ := sPha_c hI (show x.toNat < 4 by omega)
          refine xk_if rfl (p := 66) rfl (fun c63_5 => ?_) (fun c63_5 => ?_)
          · replace c63_5 : ¬ (sPha m (x.toNat) = 0) := c63_5
            refine xk_push rfl (p := 77) rfl ?_
            refine xk_ret rfl (rfl) ?_
            exact zRet (show y_put m x y z w = (some (0, (-3)), m) from (by unfold y_put; (repeat' split) <;> first | rfl | (exfalso; omega) | (congr 1; omega))) hR Fr.rf
          · replace c63_5 : sPha m (x.toNat) = 0 := Decidable.not_not.mp c63_5
            refine xk_load rfl (p := 68) rfl rfl ?_
            refine xk_load rfl (p := 69) rfl rfl ?_
            refine xk_callp rfl (p := 72) rfl (by decide) rfl (Nat.le_of_ble_eq_true rfl) (Nat.le_of_ble_eq_true rfl) (xrv ((ly_dl L hs (show x.toNat < 4 by omega)).1) (by decide)) (as := [(2, (((78 + 89 * 0 + 4 * (x.toNat)) : Nat) : Int)), (0, y)]) (r := []) rfl (v := (0, sRow m (x.toNat) y)) (c_rowFor L hs hI hR (show x.toNat < 4 by omega) (by omega)) ?_
            have sRow_ := sRow_rng (m := m) (d := x.toNat) (x := y)
            have iRn_ := iRn hI (show x.toNat < 4 by omega)
            refine xk_if rfl (p := 75) rfl (fun c72_6 => ?_) (fun c72_6 => ?_)
            · replace c72_6 : sRow m (x.toNat) y < 0 := c72_6
              refine xk_load rfl (p := 80) rfl rfl ?_
              refine xk_getf rfl (p := 83) rfl (xob ((ly_dl L hs (show x.toNat < 4 by omega)).1) (by decide)) (v := (0, ((nR m (x.toNat) : Nat) : Int))) (xsl0 rfl ((rRow hR (show x.toNat < 4 by omega) (show 0 < m 300 (x.toNat) by omega)).trans (iRn hI (show x.toNat < 4 by omega)).1)) ?_
              have iRn_ := iRn hI (show x.toNat < 4 by omega)
              refine xk_push rfl (p := 84) rfl ?_
              refine xk_icmp rfl (p := 87) rfl (fun c84_7 => ?_) (fun c84_7 => ?_)
              · replace c84_7 : ((nR m (x.toNat) : Nat) : Int) < 4 := c84_7
                refine xk_load rfl (p := 92) rfl rfl ?_
                refine xk_load rfl (p := 93) rfl rfl ?_
                refine xk_load rfl (p := 94) rfl rfl ?_
                refine xk_load rfl (p := 96) rfl rfl ?_
                refine xk_call rfl (p := 99) rfl (by decide) rfl (Nat.le_of_ble_eq_true rfl) (Nat.le_of_ble_eq_true rfl) (xrv ((ly_dl L hs (show x.toNat < 4 by omega)).1) (by decide)) (as := [(2, (((78 + 89 * 0 + 4 * (x.toNat)) : Nat) : Int)), (0, y), (0, z), (0, w)]) (r := []) rfl (m_dadd (ly_dl L hs (show x.toNat < 4 by omega)) (by omega) ((rRow hR (show x.toNat < 4 by omega) (show 0 < m 300 x.toNat by omega)).trans (iRn hI (show x.toNat < 4 by omega)).1) (by omega)) ?_
                rintro _ g v2 ⟨rfl, rfl, rfl⟩
                refine xk_ret rfl (rfl) ?_
                exact zRet (show y_put m x y z w = (some (0, ((nR m x.toNat + 1 : Nat) : Int)), xupd (xupd (xupd (xupd m 303 (((12 * x) + ((nR m (x.toNat) : Nat) : Int)).toNat) y) 303 ((((12 * x) + ((nR m (x.toNat) : Nat) : Int)) + 4).toNat) z) 303 ((((12 * x) + ((nR m (x.toNat) : Nat) : Int)) + 8).toNat) w) 301 (x.toNat) ((nR m (x.toNat) + 1 : Nat) : Int)) from (by unfold y_put; (repeat' split) <;> first | rfl | (exfalso; omega) | (congr 1; omega))) (hR.put hI (by omega) (by omega) rfl (by omega) (by omega) (by omega) (by omega)) ((((Fr.rf.up (by omega) (by omega)).up (by omega) (by omega)).up (by omega) (by omega)).up (by omega) (by omega))
              · replace c84_7 : ¬ (((nR m (x.toNat) : Nat) : Int) < 4) := c84_7
                refine xk_push rfl (p := 89) rfl ?_
                refine xk_ret rfl (rfl) ?_
                exact zRet (show y_put m x y z w = (some (0, (-4)), m) from (by unfold y_put; (repeat' split) <;> first | rfl | (exfalso; omega) | (congr 1; omega))) hR Fr.rf
            · replace c72_6 : ¬ (sRow m (x.toNat) y < 0) := c72_6
              refine xk_push rfl (p := 77) rfl ?_
              refine xk_ret rfl (rfl) ?_
              exact zRet (show y_put m x y z w = (some (0, (-3)), m) from (by unfold y_put; (repeat' split) <;> first | rfl | (exfalso; omega) | (congr 1; omega))) hR Fr.rf
        · replace c41_4 : ¬ (0 ≤ w ∧ w ≤ 999) := xb_e1 c41_4
          refine xk_push rfl (p := 46) rfl ?_
          refine xk_ret rfl (rfl) ?_
          exact zRet (show y_put m x y z w = (some (0, (-2)), m) from (by unfold y_put; (repeat' split) <;> first | rfl | (exfalso; omega) | (congr 1; omega))) hR Fr.rf
      · replace c26_3 : ¬ (z = (-1)) := c26_3
        refine xk_load rfl (p := 30) rfl rfl ?_
        refine xk_callp rfl (p := 33) rfl (by decide) rfl (Nat.le_of_ble_eq_true rfl) (Nat.le_of_ble_eq_true rfl) (rfl) (as := [(0, z)]) (r := []) rfl (v := (0, (if 0 ≤ z ∧ z ≤ 999 then (1 : Int) else 0))) (c_isRevision) ?_
        refine xk_if rfl (p := 36) rfl (fun c33_8 => ?_) (fun c33_8 => ?_)
        · replace c33_8 : ¬ (0 ≤ z ∧ z ≤ 999) := xb_e0 c33_8
          refine xk_push rfl (p := 46) rfl ?_
          refine xk_ret rfl (rfl) ?_
          exact zRet (show y_put m x y z w = (some (0, (-2)), m) from (by unfold y_put; (repeat' split) <;> first | rfl | (exfalso; omega) | (congr 1; omega))) hR Fr.rf
        · replace c33_8 : 0 ≤ z ∧ z ≤ 999 := xb_n0 c33_8
          refine xk_load rfl (p := 38) rfl rfl ?_
          refine xk_callp rfl (p := 41) rfl (by decide) rfl (Nat.le_of_ble_eq_true rfl) (Nat.le_of_ble_eq_true rfl) (rfl) (as := [(0, w)]) (r := []) rfl (v := (0, (if 0 ≤ w ∧ w ≤ 999 then (1 : Int) else 0))) (c_isRevision) ?_
          refine xk_if rfl (p := 44) rfl (fun c41_9 => ?_) (fun c41_9 => ?_)
          · replace c41_9 : 0 ≤ w ∧ w ≤ 999 := xb_n0 c41_9
            refine xk_load rfl (p := 48) rfl rfl ?_
            refine xk_getf rfl (p := 51) rfl (xob (ly_x L) (by decide)) (v := (2, (((5 + 89 * 0) : Nat) : Int))) (xsl2 rfl (ly_x1 L)) ?_
            refine xk_getf rfl (p := 54) rfl (xob (ly_st L hs) (by decide)) (v := (2, (((7 + 89 * 0) : Nat) : Int))) (xsl2 rfl (ly_s1 L hs)) ?_
            refine xk_load rfl (p := 55) rfl rfl ?_
            refine xk_aldi rfl (p := 56) rfl (show 0 ≤ x by omega) (v := (2, (((78 + 89 * 0 + 4 * (x.toNat)) : Nat) : Int))) (xal2 (ly_sd L hs) (by decide) (show x.toNat < 4 by omega) (ly_de L hs (show x.toNat < 4 by omega))) ?_
            refine xk_store rfl (p := 58) rfl (by decide) (Nat.le_of_ble_eq_true rfl) (ls' := [(2, ((2 : Nat) : Int)), (0, x), (0, y), (0, z), (0, w), (2, (((78 + 89 * 0 + 4 * (x.toNat)) : Nat) : Int))]) rfl ?_
            refine xk_load rfl (p := 60) rfl rfl ?_
            refine xk_getf rfl (p := 63) rfl (xob ((ly_dl L hs (show x.toNat < 4 by omega)).1) (by decide)) (v := (0, sPha m (x.toNat))) (xsl0 rfl (rPha hR (show x.toNat < 4 by omega))) ?_
            have sPha_ := sPha_c hI (show x.toNat < 4 by omega)
            refine xk_if rfl (p := 66) rfl (fun c63_10 => ?_) (fun c63_10 => ?_)
            · replace c63_10 : ¬ (sPha m (x.toNat) = 0) := c63_10
              refine xk_push rfl (p := 77) rfl ?_
              refine xk_ret rfl (rfl) ?_
              exact zRet (show y_put m x y z w = (some (0, (-3)), m) from (by unfold y_put; (repeat' split) <;> first | rfl | (exfalso; omega) | (congr 1; omega))) hR Fr.rf
            · replace c63_10 : sPha m (x.toNat) = 0 := Decidable.not_not.mp c63_10
              refine xk_load rfl (p := 68) rfl rfl ?_
              refine xk_load rfl (p := 69) rfl rfl ?_
              refine xk_callp rfl (p := 72) rfl (by decide) rfl (Nat.le_of_ble_eq_true rfl) (Nat.le_of_ble_eq_true rfl) (xrv ((ly_dl L hs (show x.toNat < 4 by omega)).1) (by decide)) (as := [(2, (((78 + 89 * 0 + 4 * (x.toNat)) : Nat) : Int)), (0, y)]) (r := []) rfl (v := (0, sRow m (x.toNat) y)) (c_rowFor L hs hI hR (show x.toNat < 4 by omega) (by omega)) ?_
              have sRow_ := sRow_rng (m := m) (d := x.toNat) (x := y)
              have iRn_ := iRn hI (show x.toNat < 4 by omega)
              refine xk_if rfl (p := 75) rfl (fun c72_11 => ?_) (fun c72_11 => ?_)
              · replace c72_11 : sRow m (x.toNat) y < 0 := c72_11
                refine xk_load rfl (p := 80) rfl rfl ?_
                refine xk_getf rfl (p := 83) rfl (xob ((ly_dl L hs (show x.toNat < 4 by omega)).1) (by decide)) (v := (0, ((nR m (x.toNat) : Nat) : Int))) (xsl0 rfl ((rRow hR (show x.toNat < 4 by omega) (show 0 < m 300 (x.toNat) by omega)).trans (iRn hI (show x.toNat < 4 by omega)).1)) ?_
                have iRn_ := iRn hI (show x.toNat < 4 by omega)
                refine xk_push rfl (p := 84) rfl ?_
                refine xk_icmp rfl (p := 87) rfl (fun c84_12 => ?_) (fun c84_12 => ?_)
                · replace c84_12 : ((nR m (x.toNat) : Nat) : Int) < 4 := c84_12
                  refine xk_load rfl (p := 92) rfl rfl ?_
                  refine xk_load rfl (p := 93) rfl rfl ?_
                  refine xk_load rfl (p := 94) rfl rfl ?_
                  refine xk_load rfl (p := 96) rfl rfl ?_
                  refine xk_call rfl (p := 99) rfl (by decide) rfl (Nat.le_of_ble_eq_true rfl) (Nat.le_of_ble_eq_true rfl) (xrv ((ly_dl L hs (show x.toNat < 4 by omega)).1) (by decide)) (as := [(2, (((78 + 89 * 0 + 4 * (x.toNat)) : Nat) : Int)), (0, y), (0, z), (0, w)]) (r := []) rfl (m_dadd (ly_dl L hs (show x.toNat < 4 by omega)) (by omega) ((rRow hR (show x.toNat < 4 by omega) (show 0 < m 300 x.toNat by omega)).trans (iRn hI (show x.toNat < 4 by omega)).1) (by omega)) ?_
                  rintro _ g v2 ⟨rfl, rfl, rfl⟩
                  refine xk_ret rfl (rfl) ?_
                  exact zRet (show y_put m x y z w = (some (0, ((nR m x.toNat + 1 : Nat) : Int)), xupd (xupd (xupd (xupd m 303 (((12 * x) + ((nR m (x.toNat) : Nat) : Int)).toNat) y) 303 ((((12 * x) + ((nR m (x.toNat) : Nat) : Int)) + 4).toNat) z) 303 ((((12 * x) + ((nR m (x.toNat) : Nat) : Int)) + 8).toNat) w) 301 (x.toNat) ((nR m (x.toNat) + 1 : Nat) : Int)) from (by unfold y_put; (repeat' split) <;> first | rfl | (exfalso; omega) | (congr 1; omega))) (hR.put hI (by omega) (by omega) rfl (by omega) (by omega) (by omega) (by omega)) ((((Fr.rf.up (by omega) (by omega)).up (by omega) (by omega)).up (by omega) (by omega)).up (by omega) (by omega))
                · replace c84_12 : ¬ (((nR m (x.toNat) : Nat) : Int) < 4) := c84_12
                  refine xk_push rfl (p := 89) rfl ?_
                  refine xk_ret rfl (rfl) ?_
                  exact zRet (show y_put m x y z w = (some (0, (-4)), m) from (by unfold y_put; (repeat' split) <;> first | rfl | (exfalso; omega) | (congr 1; omega))) hR Fr.rf
              · replace c72_11 : ¬ (sRow m (x.toNat) y < 0) := c72_11
                refine xk_push rfl (p := 77) rfl ?_
                refine xk_ret rfl (rfl) ?_
                exact zRet (show y_put m x y z w = (some (0, (-3)), m) from (by unfold y_put; (repeat' split) <;> first | rfl | (exfalso; omega) | (congr 1; omega))) hR Fr.rf
          · replace c41_9 : ¬ (0 ≤ w ∧ w ≤ 999) := xb_e1 c41_9
            refine xk_push rfl (p := 46) rfl ?_
            refine xk_ret rfl (rfl) ?_
            exact zRet (show y_put m x y z w = (some (0, (-2)), m) from (by unfold y_put; (repeat' split) <;> first | rfl | (exfalso; omega) | (congr 1; omega))) hR Fr.rf
    · replace c19_2 : ¬ (0 ≤ y ∧ y < m 292 0) := xb_e1 c19_2
      refine xk_push rfl (p := 23) rfl ?_
      refine xk_ret rfl (rfl) ?_
      exact zRet (show y_put m x y z w = (some (0, (-1)), m) from (by unfold y_put; (repeat' split) <;> first | rfl | (exfalso; omega) | (congr 1; omega))) hR Fr.rf

theorem R5.at {t m : xD} {s d : Nat} (h : Rep t s m) (hd : d < 4) : R5d t s m d := h.2.2.2.2.1 d hd
theorem sPha_n {m : xD} {d : Nat} (h : 0 < m 300 d) : sPha m d = m 302 d := if_neg (by omega)
/-- a deal comes to another phase -/
theorem Rep.phase {t m : xD} {s d : Nat} {p x : Int} (h : Rep t s m) (hI : Inv m) (hd : d < 4) (hk : 0 < m 300 d) (hx : x = m 292 13 ∨ (x = 0 ∧ p = 2 ∧ sCom m = -1)) (hp : (p = 2 ∧ x = 0 ∧ sCom m = -1) ∨ (¬ p = 2 ∧ ¬ m 302 d = 2)) : Rep (xupd t (78 + 89 * s + 4 * d) 5 p) s (xupd (xupd m 302 d p) 292 13 x) := by
  have r := sCom_rng (m := m)
  have e : sRec (xupd (xupd m 302 d p) 292 13 x) = sRec m ∧ sApp (xupd (xupd m 302 d p) 292 13 x) = sApp m := by
    rcases hp with ⟨rfl, rfl, hc⟩ | ⟨hp, hq⟩
    · have w0 : xupd (xupd m 302 d 2) 292 13 0 292 13 = 0 := xupd_eq
      have l1 : ¬ (¬ sCom (xupd (xupd m 302 d 2) 292 13 0) = -1 ∧ 0 < xupd (xupd m 302 d 2) 292 13 0 292 13) := fun hh => by
        rw [w0] at hh
        exact absurd hh.2 (by decide)
      have l2 : ¬ (¬ sCom m = -1 ∧ 0 < m 292 13) := fun hh => hh.1 hc
      exact ⟨(if_neg l1).trans (if_neg l2).symm, (if_neg l1).trans (if_neg l2).symm⟩
    · refine sRec_cg (sCom_cg (fun e he => ?_)) ?_
      · show (0 < m 300 e ∧ xupd m 302 d p 302 e = 2) ↔ _
        rw [xupd_c]
        by_cases c : e = d
        · subst c
          rw [if_pos rfl]
          exact ⟨fun hh => absurd hh.2 hp, fun hh => absurd hh.2 hq⟩
        · rw [if_neg c]
      · show x = m 292 13
        omega
  refine h.deal hI hd (fun a k hn => xupd_ne (by omega)) (fun a k hn => (xupd_ne (by omega)).trans (xupd_ne (by omega))) e.1 e.2 ?_
  have h5 := R5.at h hd
  refine ⟨?_, fun _ => ⟨?_, ?_, fun r hr => ?_⟩⟩
  · refine xupd_eq.trans ?_
    have : sPha (xupd (xupd m 302 d p) 292 13 x) d = xupd m 302 d p 302 d := if_neg (by show ¬ m 300 d = 0; omega)
    rw [this, xupd_eq]
  · exact (xupd_ne (by omega)).trans (h5.2 hk).1
  · exact (xupd_ne (by omega)).trans (h5.2 hk).2.1
  · have q := (h5.2 hk).2.2 r hr
    exact ⟨(xupd_ne (by omega)).trans q.1, (xupd_ne (by omega)).trans q.2.1, (xupd_ne (by omega)).trans q.2.2⟩
theorem xupd_sm {m : xD} {a k : Nat} : xupd m a k (m a k) = m := by
  funext b j
  unfold xupd
  by_cases c : b = a ∧ j = k
  · rw [if_pos c, c.1, c.2]
  · rw [if_neg c]
theorem Rep.prep {t m : xD} {s d : Nat} (h : Rep t s m) (hI : Inv m) (hd : d < 4) (hk : 0 < m 300 d) (h2 : ¬ m 302 d = 2) : Rep (xupd t (78 + 89 * s + 4 * d) 5 1) s (xupd m 302 d 1) := by
  have := Rep.phase (p := 1) (x := m 292 13) h hI hd hk (.inl rfl) (.inr ⟨by decide, h2⟩)
  rw [show xupd (xupd m 302 d 1) 292 13 (m 292 13) = xupd m 302 d 1 from xupd_sm (m := xupd m 302 d 1)] at this
  exact this
/-- a deal goes -/
theorem Rep.gone {t m : xD} {s d : Nat} (h : Rep t s m) (hI : Inv m) (hd : d < 4) (h2 : ¬ (0 < m 300 d ∧ m 302 d = 2)) : Rep (xupd t (78 + 89 * s + 4 * d) 5 (-1)) s (xupd m 300 d 0) := by
  have e := sRec_cg (m := m) (w := xupd m 300 d 0) (sCom_cg (fun e he => by
    show (0 < xupd m 300 d 0 300 e ∧ m 302 e = 2) ↔ _
    rw [xupd_c]
    by_cases c : e = d
    · subst c
      rw [if_pos rfl]
      exact ⟨fun hh => absurd hh.1 (by decide), fun hh => absurd hh h2⟩
    · rw [if_neg c])) rfl
  refine h.deal hI hd (fun a k hn => xupd_ne (by omega)) (fun a k hn => xupd_ne (by omega)) e.1 e.2 ⟨xupd_eq.trans (Eq.symm (if_pos xupd_eq)), fun hk => ?_⟩
  rw [xupd_eq] at hk
  exact absurd hk (by decide)
theorem Rep.newd {t m : xD} {s d : Nat} {x : Int} (h : Rep t s m) (hI : Inv m) (hd : d < 4) (hk : m 300 d = 0) (hx : 0 ≤ x) : Rep (xupd (xupd (xupd t (78 + 89 * s + 4 * d) 4 x) (78 + 89 * s + 4 * d) 5 0) (78 + 89 * s + 4 * d) 3 0) s (xupd (xupd (xupd m 300 d (x + 1)) 301 d 0) 302 d 0) := by
  have e := sRec_cg (m := m) (w := xupd (xupd (xupd m 300 d (x + 1)) 301 d 0) 302 d 0) (sCom_cg (fun e he => by
    show (0 < xupd m 300 d (x + 1) 300 e ∧ xupd m 302 d 0 302 e = 2) ↔ _
    rw [xupd_c, xupd_c]
    by_cases c : e = d
    · subst c
      rw [if_pos rfl, if_pos rfl]
      exact ⟨fun hh => absurd hh.2 (by decide), fun hh => by omega⟩
    · rw [if_neg c, if_neg c])) rfl
  refine h.deal hI hd (fun a k hn => (xupd_ne (by omega)).trans ((xupd_ne (by omega)).trans (xupd_ne (by omega)))) (fun a k hn => (xupd_ne (by omega)).trans ((xupd_ne (by omega)).trans (xupd_ne (by omega)))) e.1 e.2 ⟨?_, fun _ => ⟨?_, ?_, fun r hr => ?_⟩⟩
  · refine ((xupd_ne (by omega)).trans xupd_eq).trans (Eq.symm ?_)
    have : sPha (xupd (xupd (xupd m 300 d (x + 1)) 301 d 0) 302 d 0) d = xupd (xupd (xupd m 300 d (x + 1)) 301 d 0) 302 d 0 302 d := if_neg (by
      show ¬ xupd m 300 d (x + 1) 300 d = 0
      rw [xupd_eq]
      omega)
    rw [this, xupd_eq]
  · refine ((xupd_ne (by omega)).trans ((xupd_ne (by omega)).trans xupd_eq)).trans (Eq.symm ?_)
    show xupd m 300 d (x + 1) 300 d - 1 = x
    rw [xupd_eq]
    omega
  · refine xupd_eq.trans (Eq.symm ?_)
    show xupd (xupd m 300 d (x + 1)) 301 d 0 301 d = 0
    exact xupd_eq
  · have hr : ((r : Nat) : Int) < xupd (xupd m 300 d (x + 1)) 301 d 0 301 d := hr
    rw [xupd_eq] at hr
    omega
theorem c_prepare {d : Nat} {g : xG} {t m : xD} {x : Int} (L : xLay g) (hI : Inv m) (hR : Rep t 0 m) : xCall (d + 4) 79 [(2, ((2 : Nat) : Int)), (0, x)] g t (zQ 0 g t (y_prepare m x)) := by
  show xOk (d + 4) 79 0 [(2, ((2 : Nat) : Int)), (0, x), (3, 0)] [] g t _
  have iNn_ := iNn hI
  have hs : 0 < 3 := by decide
  have hs1 : 1 < 3 := by decide
  have hs2 : 2 < 3 := by decide
  refine xk_load rfl (p := 1) rfl rfl ?_
  refine xk_getf rfl (p := 4) rfl (xob (ly_x L) (by decide)) (v := (2, (((5 + 89 * 0) : Nat) : Int))) (xsl2 rfl (ly_x1 L)) ?_
  refine xk_load rfl (p := 5) rfl rfl ?_
  refine xk_callp rfl (p := 8) rfl (by decide) rfl (Nat.le_of_ble_eq_true rfl) (Nat.le_of_ble_eq_true rfl) (xrv (ly_st L hs) (by decide)) (as := [(2, (((5 + 89 * 0) : Nat) : Int)), (0, x)]) (r := []) rfl (v := (0, (if 0 ≤ x ∧ x < 4 ∧ 0 < m 300 x.toNat then (1 : Int) else 0))) (c_isDeal L hs hI hR) ?_
  refine xk_if rfl (p := 11) rfl (fun c8_1 => ?_) (fun c8_1 => ?_)
  · replace c8_1 : 0 ≤ x ∧ x < 4 ∧ 0 < m 300 x.toNat := xb_n0 c8_1
    refine xk_load rfl (p := 14) rfl rfl ?_
    refine xk_getf rfl (p := 17) rfl (xob (ly_x L) (by decide)) (v := (2, (((5 + 89 * 0) : Nat) : Int))) (xsl2 rfl (ly_x1 L)) ?_
    refine xk_getf rfl (p := 20) rfl (xob (ly_st L hs) (by decide)) (v := (2, (((7 + 89 * 0) : Nat) : Int))) (xsl2 rfl (ly_s1 L hs)) ?_
    refine xk_load rfl (p := 21) rfl rfl ?_
    refine xk_aldi rfl (p := 22) rfl (show 0 ≤ x by omega) (v := (2, (((78 + 89 * 0 + 4 * (x.toNat)) : Nat) : Int))) (xal2 (ly_sd L hs) (by decide) (show x.toNat < 4 by omega) (ly_de L hs (show x.toNat < 4 by omega))) ?_
    refine xk_getf rfl (p := 25) rfl (xob ((ly_dl L hs (show x.toNat < 4 by omega)).1) (by decide)) (v := (0, sPha m (x.toNat))) (xsl0 rfl (rPha hR (show x.toNat < 4 by omega))) ?_
    have sPha_ := sPha_c hI (show x.toNat < 4 by omega)
    refine xk_if rfl (p := 28) rfl (fun c25_2 => ?_) (fun c25_2 => ?_)
    · replace c25_2 : sPha m (x.toNat) = 0 := c25_2
      refine xk_load rfl (p := 32) rfl rfl ?_
      refine xk_getf rfl (p := 35) rfl (xob (ly_x L) (by decide)) (v := (2, (((5 + 89 * 0) : Nat) : Int))) (xsl2 rfl (ly_x1 L)) ?_
      refine xk_load rfl (p := 36) rfl rfl ?_
      refine xk_stk (show _ = (0, ((x.toNat : Nat) : Int)) :: [(2, (((5 + 89 * 0) : Nat) : Int))] from congrArg (fun z => ((0, z) : xV) :: [(2, (((5 + 89 * 0) : Nat) : Int))]) (Int.toNat_of_nonneg (show 0 ≤ x by omega)).symm) ?_
      refine xk_call rfl (p := 39) rfl (by decide) rfl (Nat.le_of_ble_eq_true rfl) (Nat.le_of_ble_eq_true rfl) (xrv (ly_st L hs) (by decide)) (as := [(2, (((5 + 89 * 0) : Nat) : Int)), (0, ((x.toNat : Nat) : Int))]) (r := []) rfl (c_wrongOf (s := 0) L hs hI hR (show x.toNat < 4 by omega) (by omega)) ?_
      rintro _ g v1 ⟨rfl, rfl, hV1, hF1⟩
      replace hV1 : Rep v1 0 m := hV1
      have sWrong_ := sWrong_rng hI (d := x.toNat) (show x.toNat < 4 by omega)
      refine xk_store rfl (p := 40) rfl (by decide) (Nat.le_of_ble_eq_true rfl) (ls' := [(2, ((2 : Nat) : Int)), (0, x), (0, sWrong m (x.toNat))]) rfl ?_
      refine xk_load rfl (p := 41) rfl rfl ?_
      refine xk_if rfl (p := 44) rfl (fun c41_3 => ?_) (fun c41_3 => ?_)
      · replace c41_3 : sWrong m (x.toNat) = 0 := c41_3
        refine xk_load rfl (p := 50) rfl rfl ?_
        refine xk_getf rfl (p := 53) rfl (xob (ly_x L) (by decide)) (v := (2, (((5 + 89 * 0) : Nat) : Int))) (xsl2 rfl (ly_x1 L)) ?_
        refine xk_getf rfl (p := 56) rfl (xob (ly_st L hs) (by decide)) (v := (2, (((7 + 89 * 0) : Nat) : Int))) (xsl2 rfl (ly_s1 L hs)) ?_
        refine xk_load rfl (p := 57) rfl rfl ?_
        refine xk_aldi rfl (p := 58) rfl (show 0 ≤ x by omega) (v := (2, (((78 + 89 * 0 + 4 * (x.toNat)) : Nat) : Int))) (xal2 (ly_sd L hs) (by decide) (show x.toNat < 4 by omega) (ly_de L hs (show x.toNat < 4 by omega))) ?_
        refine xk_push rfl (p := 59) rfl ?_
        refine xk_putf rfl (p := 62) rfl (xob ((ly_dl L hs (show x.toNat < 4 by omega)).1) (by decide)) rfl (by decide) (by decide) (fun h => absurd h (by decide)) (by omega) ?_
        refine xk_push rfl (p := 63) rfl ?_
        refine xk_ret rfl (rfl) ?_
        exact zRet (show y_prepare m x = (some (0, 0), xupd m 302 (x.toNat) 1) from (by unfold y_prepare; (repeat' split) <;> first | rfl | (exfalso; omega) | (congr 1; omega))) (hV1.prep hI (by omega) (by omega) (by omega)) (hF1.up (by omega) (by omega))
      · replace c41_3 : ¬ (sWrong m (x.toNat) = 0) := c41_3
        refine xk_push rfl (p := 46) rfl ?_
        refine xk_load rfl (p := 47) rfl rfl ?_
        refine xk_bin rfl (p := 48) rfl (z := ((-10) - sWrong m (x.toNat))) (congrArg some (xsub_r (by omega) (by omega))) ?_
        refine xk_ret rfl (rfl) ?_
        exact zRet (show y_prepare m x = (some (0, ((-10) - sWrong m (x.toNat))), m) from (by unfold y_prepare; (repeat' split) <;> first | rfl | (exfalso; omega) | (congr 1; omega))) hV1 hF1
    · replace c25_2 : ¬ (sPha m (x.toNat) = 0) := c25_2
      refine xk_push rfl (p := 30) rfl ?_
      refine xk_ret rfl (rfl) ?_
      exact zRet (show y_prepare m x = (some (0, (-3)), m) from (by unfold y_prepare; (repeat' split) <;> first | rfl | (exfalso; omega) | (congr 1; omega))) hR Fr.rf
  · replace c8_1 : ¬ (0 ≤ x ∧ x < 4 ∧ 0 < m 300 x.toNat) := xb_e1 c8_1
    refine xk_push rfl (p := 12) rfl ?_
    refine xk_ret rfl (rfl) ?_
    exact zRet (show y_prepare m x = (some (0, (-1)), m) from (by unfold y_prepare; (repeat' split) <;> first | rfl | (exfalso; omega) | (congr 1; omega))) hR Fr.rf

theorem c_abandon {d : Nat} {g : xG} {t m : xD} {x : Int} (L : xLay g) (hI : Inv m) (hR : Rep t 0 m) : xCall (d + 1) 81 [(2, ((2 : Nat) : Int)), (0, x)] g t (zQ 0 g t (y_abandon m x)) := by
  show xOk (d + 1) 81 0 [(2, ((2 : Nat) : Int)), (0, x)] [] g t _
  have iNn_ := iNn hI
  have hs : 0 < 3 := by decide
  have hs1 : 1 < 3 := by decide
  have hs2 : 2 < 3 := by decide
  refine xk_load rfl (p := 1) rfl rfl ?_
  refine xk_getf rfl (p := 4) rfl (xob (ly_x L) (by decide)) (v := (2, (((5 + 89 * 0) : Nat) : Int))) (xsl2 rfl (ly_x1 L)) ?_
  refine xk_load rfl (p := 5) rfl rfl ?_
  refine xk_callp rfl (p := 8) rfl (by decide) rfl (Nat.le_of_ble_eq_true rfl) (Nat.le_of_ble_eq_true rfl) (xrv (ly_st L hs) (by decide)) (as := [(2, (((5 + 89 * 0) : Nat) : Int)), (0, x)]) (r := []) rfl (v := (0, (if 0 ≤ x ∧ x < 4 ∧ 0 < m 300 x.toNat then (1 : Int) else 0))) (c_isDeal L hs hI hR) ?_
  refine xk_if rfl (p := 11) rfl (fun c8_1 => ?_) (fun c8_1 => ?_)
  · replace c8_1 : 0 ≤ x ∧ x < 4 ∧ 0 < m 300 x.toNat := xb_n0 c8_1
    refine xk_load rfl (p := 14) rfl rfl ?_
    refine xk_getf rfl (p := 17) rfl (xob (ly_x L) (by decide)) (v := (2, (((5 + 89 * 0) : Nat) : Int))) (xsl2 rfl (ly_x1 L)) ?_
    refine xk_getf rfl (p := 20) rfl (xob (ly_st L hs) (by decide)) (v := (2, (((7 + 89 * 0) : Nat) : Int))) (xsl2 rfl (ly_s1 L hs)) ?_
    refine xk_load rfl (p := 21) rfl rfl ?_
    refine xk_aldi rfl (p := 22) rfl (show 0 ≤ x by omega) (v := (2, (((78 + 89 * 0 + 4 * (x.toNat)) : Nat) : Int))) (xal2 (ly_sd L hs) (by decide) (show x.toNat < 4 by omega) (ly_de L hs (show x.toNat < 4 by omega))) ?_
    refine xk_getf rfl (p := 25) rfl (xob ((ly_dl L hs (show x.toNat < 4 by omega)).1) (by decide)) (v := (0, sPha m (x.toNat))) (xsl0 rfl (rPha hR (show x.toNat < 4 by omega))) ?_
    have sPha_ := sPha_c hI (show x.toNat < 4 by omega)
    refine xk_push rfl (p := 26) rfl ?_
    refine xk_icmp rfl (p := 29) rfl (fun c26_2 => ?_) (fun c26_2 => ?_)
    · replace c26_2 : ¬ (sPha m (x.toNat) = 2) := c26_2
      refine xk_load rfl (p := 33) rfl rfl ?_
      refine xk_getf rfl (p := 36) rfl (xob (ly_x L) (by decide)) (v := (2, (((5 + 89 * 0) : Nat) : Int))) (xsl2 rfl (ly_x1 L)) ?_
      refine xk_getf rfl (p := 39) rfl (xob (ly_st L hs) (by decide)) (v := (2, (((7 + 89 * 0) : Nat) : Int))) (xsl2 rfl (ly_s1 L hs)) ?_
      refine xk_load rfl (p := 40) rfl rfl ?_
      refine xk_aldi rfl (p := 41) rfl (show 0 ≤ x by omega) (v := (2, (((78 + 89 * 0 + 4 * (x.toNat)) : Nat) : Int))) (xal2 (ly_sd L hs) (by decide) (show x.toNat < 4 by omega) (ly_de L hs (show x.toNat < 4 by omega))) ?_
      refine xk_push rfl (p := 42) rfl ?_
      refine xk_putf rfl (p := 45) rfl (xob ((ly_dl L hs (show x.toNat < 4 by omega)).1) (by decide)) rfl (by decide) (by decide) (fun h => absurd h (by decide)) (by omega) ?_
      refine xk_load rfl (p := 46) rfl rfl ?_
      refine xk_getf rfl (p := 49) rfl (xob (ly_x L) (by decide)) (v := (2, (((5 + 89 * 0) : Nat) : Int))) (xsl2 rfl (ly_x1 L)) ?_
      refine xk_getf rfl (p := 52) rfl (xob (ly_st L hs) (by decide)) (v := (2, (((7 + 89 * 0) : Nat) : Int))) (xsl2 rfl (ly_s1 L hs)) ?_
      refine xk_load rfl (p := 53) rfl rfl ?_
      refine xk_aldi rfl (p := 54) rfl (show 0 ≤ x by omega) (v := (2, (((78 + 89 * 0 + 4 * (x.toNat)) : Nat) : Int))) (xal2 (ly_sd L hs) (by decide) (show x.toNat < 4 by omega) (ly_de L hs (show x.toNat < 4 by omega))) ?_
      refine xk_getf rfl (p := 57) rfl (xob ((ly_dl L hs (show x.toNat < 4 by omega)).1) (by decide)) (v := (0, ((nR m (x.toNat) : Nat) : Int))) (xsl0 rfl ((xupd_ne (by omega)).trans ((rRow hR (show x.toNat < 4 by omega) (show 0 < m 300 (x.toNat) by omega)).trans (iRn hI (show x.toNat < 4 by omega)).1))) ?_
      have iRn_ := iRn hI (show x.toNat < 4 by omega)
      refine xk_ret rfl (rfl) ?_
      exact zRet (show y_abandon m x = (some (0, ((nR m (x.toNat) : Nat) : Int)), xupd m 300 (x.toNat) 0) from (by unfold y_abandon; (repeat' split) <;> first | rfl | (exfalso; omega) | (congr 1; omega))) (hR.gone hI (by omega) (by omega)) (Fr.rf.up (by omega) (by omega))
    · replace c26_2 : sPha m (x.toNat) = 2 := Decidable.not_not.mp c26_2
      refine xk_push rfl (p := 31) rfl ?_
      refine xk_ret rfl (rfl) ?_
      exact zRet (show y_abandon m x = (some (0, (-3)), m) from (by unfold y_abandon; (repeat' split) <;> first | rfl | (exfalso; omega) | (congr 1; omega))) hR Fr.rf
  · replace c8_1 : ¬ (0 ≤ x ∧ x < 4 ∧ 0 < m 300 x.toNat) := xb_e1 c8_1
    refine xk_push rfl (p := 12) rfl ?_
    refine xk_ret rfl (rfl) ?_
    exact zRet (show y_abandon m x = (some (0, (-1)), m) from (by unfold y_abandon; (repeat' split) <;> first | rfl | (exfalso; omega) | (congr 1; omega))) hR Fr.rf

theorem Inv.comm {m : xD} (h : Inv m) {d : Nat} (hd : d < 4) (hk : 0 < m 300 d) (hc : sCom m = -1) : Inv (xupd (xupd m 302 d 2) 292 13 0) := by
  have no := xix_no (P := fun d => 0 < m 300 d ∧ m 302 d = 2) (K := 4) hc
  have i := iD h hd
  refine h.deal hd (fun a k hn => (xupd_ne (by omega)).trans (xupd_ne (by omega))) ⟨i.1, i.2.1, i.2.2.1, i.2.2.2.1, ?_, ?_⟩ (fun hk r hr => iRo h hd hk hr) (fun hk r q hr hq he => iRd h hd hk hr hq he) (fun e he _ _ => no e he) ⟨fun e he _ hh => absurd hh (no e he), fun _ => ⟨Int.le_refl _, by show (0 : Int) ≤ m 301 d + 1; omega⟩⟩
  · show 0 ≤ xupd m 302 d 2 302 d
    rw [xupd_eq]
    decide
  · show xupd m 302 d 2 302 d ≤ 2
    rw [xupd_eq]
    decide
theorem cLeft_new {m : xD} (h : Inv m) {d : Nat} (hd : d < 4) (hk : 0 < m 300 d) (hc : sCom m = -1) : cLeft (xupd (xupd m 302 d 2) 292 13 0) = ((nR m d + 2 : Nat) : Int) := by
  have hI2 := h.comm hd hk hc
  have e : sCom (xupd (xupd m 302 d 2) 292 13 0) = ((d : Nat) : Int) := sCom_one hI2 hd ⟨hk, xupd_eq⟩
  have r := iRn h hd
  unfold cLeft sRec sApp
  rw [e]
  have h0 : xupd (xupd m 302 d 2) 292 13 0 292 13 = 0 := xupd_eq
  rw [h0]
  have en : nR (xupd (xupd m 302 d 2) 292 13 0) (((d : Nat) : Int)).toNat = nR m d := rfl
  rw [en]
  (repeat' split) <;> omega
theorem c_commit {d : Nat} {g : xG} {t m : xD} {x : Int} (L : xLay g) (hI : Inv m) (hR : Rep t 0 m) : xCall (d + 2) 80 [(2, ((2 : Nat) : Int)), (0, x)] g t (zQ 0 g t (y_commit m x)) := by
  show xOk (d + 2) 80 0 [(2, ((2 : Nat) : Int)), (0, x)] [] g t _
  have iNn_ := iNn hI
  have hs : 0 < 3 := by decide
  have hs1 : 1 < 3 := by decide
  have hs2 : 2 < 3 := by decide
  refine xk_load rfl (p := 1) rfl rfl ?_
  refine xk_getf rfl (p := 4) rfl (xob (ly_x L) (by decide)) (v := (2, (((5 + 89 * 0) : Nat) : Int))) (xsl2 rfl (ly_x1 L)) ?_
  refine xk_load rfl (p := 5) rfl rfl ?_
  refine xk_callp rfl (p := 8) rfl (by decide) rfl (Nat.le_of_ble_eq_true rfl) (Nat.le_of_ble_eq_true rfl) (xrv (ly_st L hs) (by decide)) (as := [(2, (((5 + 89 * 0) : Nat) : Int)), (0, x)]) (r := []) rfl (v := (0, (if 0 ≤ x ∧ x < 4 ∧ 0 < m 300 x.toNat then (1 : Int) else 0))) (c_isDeal L hs hI hR) ?_
  refine xk_if rfl (p := 11) rfl (fun c8_1 => ?_) (fun c8_1 => ?_)
  · replace c8_1 : 0 ≤ x ∧ x < 4 ∧ 0 < m 300 x.toNat := xb_n0 c8_1
    refine xk_load rfl (p := 14) rfl rfl ?_
    refine xk_getf rfl (p := 17) rfl (xob (ly_x L) (by decide)) (v := (2, (((5 + 89 * 0) : Nat) : Int))) (xsl2 rfl (ly_x1 L)) ?_
    refine xk_getf rfl (p := 20) rfl (xob (ly_st L hs) (by decide)) (v := (2, (((7 + 89 * 0) : Nat) : Int))) (xsl2 rfl (ly_s1 L hs)) ?_
    refine xk_load rfl (p := 21) rfl rfl ?_
    refine xk_aldi rfl (p := 22) rfl (show 0 ≤ x by omega) (v := (2, (((78 + 89 * 0 + 4 * (x.toNat)) : Nat) : Int))) (xal2 (ly_sd L hs) (by decide) (show x.toNat < 4 by omega) (ly_de L hs (show x.toNat < 4 by omega))) ?_
    refine xk_getf rfl (p := 25) rfl (xob ((ly_dl L hs (show x.toNat < 4 by omega)).1) (by decide)) (v := (0, sPha m (x.toNat))) (xsl0 rfl (rPha hR (show x.toNat < 4 by omega))) ?_
    have sPha_ := sPha_c hI (show x.toNat < 4 by omega)
    refine xk_push rfl (p := 26) rfl ?_
    refine xk_icmp rfl (p := 29) rfl (fun c26_2 => ?_) (fun c26_2 => ?_)
    · replace c26_2 : ¬ (sPha m (x.toNat) = 1) := c26_2
      refine xk_push rfl (p := 41) rfl ?_
      refine xk_ret rfl (rfl) ?_
      exact zRet (show y_commit m x = (some (0, (-3)), m) from (by unfold y_commit; (repeat' split) <;> first | rfl | (exfalso; omega) | (congr 1; omega))) hR Fr.rf
    · replace c26_2 : sPha m (x.toNat) = 1 := Decidable.not_not.mp c26_2
      refine xk_load rfl (p := 30) rfl rfl ?_
      refine xk_getf rfl (p := 33) rfl (xob (ly_x L) (by decide)) (v := (2, (((5 + 89 * 0) : Nat) : Int))) (xsl2 rfl (ly_x1 L)) ?_
      refine xk_callp rfl (p := 36) rfl (by decide) rfl (Nat.le_of_ble_eq_true rfl) (Nat.le_of_ble_eq_true rfl) (xrv (ly_st L hs) (by decide)) (as := [(2, (((5 + 89 * 0) : Nat) : Int))]) (r := []) rfl (v := (0, sCom m)) (c_committing L hs hI hR) ?_
      have sCom_ := sCom_rng (m := m)
      have sCat_ := sCom_at (m := m)
      refine xk_if rfl (p := 39) rfl (fun c36_3 => ?_) (fun c36_3 => ?_)
      · replace c36_3 : sCom m < 0 := c36_3
        refine xk_load rfl (p := 43) rfl rfl ?_
        refine xk_getf rfl (p := 46) rfl (xob (ly_x L) (by decide)) (v := (2, (((5 + 89 * 0) : Nat) : Int))) (xsl2 rfl (ly_x1 L)) ?_
        refine xk_getf rfl (p := 49) rfl (xob (ly_st L hs) (by decide)) (v := (2, (((7 + 89 * 0) : Nat) : Int))) (xsl2 rfl (ly_s1 L hs)) ?_
        refine xk_load rfl (p := 50) rfl rfl ?_
        refine xk_aldi rfl (p := 51) rfl (show 0 ≤ x by omega) (v := (2, (((78 + 89 * 0 + 4 * (x.toNat)) : Nat) : Int))) (xal2 (ly_sd L hs) (by decide) (show x.toNat < 4 by omega) (ly_de L hs (show x.toNat < 4 by omega))) ?_
        refine xk_push rfl (p := 52) rfl ?_
        refine xk_putf rfl (p := 55) rfl (xob ((ly_dl L hs (show x.toNat < 4 by omega)).1) (by decide)) rfl (by decide) (by decide) (fun h => absurd h (by decide)) (by omega) ?_
        refine xk_load rfl (p := 56) rfl rfl ?_
        refine xk_getf rfl (p := 59) rfl (xob (ly_x L) (by decide)) (v := (2, (((5 + 89 * 0) : Nat) : Int))) (xsl2 rfl (ly_x1 L)) ?_
        refine xk_callp rfl (p := 62) rfl (by decide) rfl (Nat.le_of_ble_eq_true rfl) (Nat.le_of_ble_eq_true rfl) (xrv (ly_st L hs) (by decide)) (as := [(2, (((5 + 89 * 0) : Nat) : Int))]) (r := []) rfl (v := (0, cLeft (xupd (xupd m 302 (x.toNat) 2) 292 13 0))) (c_stepsLeft L hs (hI.comm (show x.toNat < 4 by omega) (by omega) (by omega)) (Rep.phase (p := 2) (x := 0) hR hI (show x.toNat < 4 by omega) (by omega) (.inr ⟨rfl, rfl, by omega⟩) (.inl ⟨rfl, rfl, by omega⟩))) ?_
        refine xk_ret rfl (rfl) ?_
        exact zRet (show y_commit m x = (some (0, cLeft (xupd (xupd m 302 (x.toNat) 2) 292 13 0)), xupd (xupd m 302 (x.toNat) 2) 292 13 0) from (by rw [cLeft_new hI (by omega) (by omega) (by omega)]; unfold y_commit; (repeat' split) <;> first | rfl | (exfalso; omega))) (Rep.phase (p := 2) (x := 0) hR hI (show x.toNat < 4 by omega) (by omega) (.inr ⟨rfl, rfl, by omega⟩) (.inl ⟨rfl, rfl, by omega⟩)) (Fr.rf.up (by omega) (by omega))
      · replace c36_3 : ¬ (sCom m < 0) := c36_3
        refine xk_push rfl (p := 41) rfl ?_
        refine xk_ret rfl (rfl) ?_
        exact zRet (show y_commit m x = (some (0, (-3)), m) from (by unfold y_commit; (repeat' split) <;> first | rfl | (exfalso; omega) | (congr 1; omega))) hR Fr.rf
  · replace c8_1 : ¬ (0 ≤ x ∧ x < 4 ∧ 0 < m 300 x.toNat) := xb_e1 c8_1
    refine xk_push rfl (p := 12) rfl ?_
    refine xk_ret rfl (rfl) ?_
    exact zRet (show y_commit m x = (some (0, (-1)), m) from (by unfold y_commit; (repeat' split) <;> first | rfl | (exfalso; omega) | (congr 1; omega))) hR Fr.rf

theorem c_deal {d : Nat} {g : xG} {t m : xD} {x : Int} (L : xLay g) (hI : Inv m) (hR : Rep t 0 m) : xCall (d + 1) 77 [(2, ((2 : Nat) : Int)), (0, x)] g t (zQ 0 g t (y_deal m x)) := by
  show xOk (d + 1) 77 0 [(2, ((2 : Nat) : Int)), (0, x), (3, 0)] [] g t _
  have iNn_ := iNn hI
  have hs : 0 < 3 := by decide
  have hs1 : 1 < 3 := by decide
  have hs2 : 2 < 3 := by decide
  refine xk_load rfl (p := 1) rfl rfl ?_
  refine xk_if rfl (p := 4) rfl (fun c1_1 => ?_) (fun c1_1 => ?_)
  · replace c1_1 : x < 0 := c1_1
    refine xk_push rfl (p := 10) rfl ?_
    refine xk_ret rfl (rfl) ?_
    exact zRet (show y_deal m x = (some (0, (-1)), m) from (by unfold y_deal; (repeat' split) <;> first | rfl | (exfalso; omega) | (congr 1; omega))) hR Fr.rf
  · replace c1_1 : ¬ (x < 0) := c1_1
    refine xk_load rfl (p := 5) rfl rfl ?_
    refine xk_push rfl (p := 6) rfl ?_
    refine xk_icmp rfl (p := 9) rfl (fun c6_2 => ?_) (fun c6_2 => ?_)
    · replace c6_2 : x < 4 := c6_2
      refine xk_push rfl (p := 12) rfl ?_
      refine xk_store rfl (p := 13) rfl (by decide) (Nat.le_of_ble_eq_true rfl) (ls' := [(2, ((2 : Nat) : Int)), (0, x), (0, 0)]) rfl ?_
      have lp3 : ∀ k : Nat, k ≤ 4 → (∀ i, i < k → ¬ m 300 i ≤ 0) → xOk (d + 1) 77 13 [(2, ((2 : Nat) : Int)), (0, x), (0, ((k : Nat) : Int))] [] g t (zQ 0 g t (y_deal m x)) := by
        refine xk_up 4 (fun k hkk ih3  hi1 => ?_)
        refine xk_load rfl (p := 14) rfl rfl ?_
        refine xk_push rfl (p := 15) rfl ?_
        refine xk_icmp rfl (p := 18) rfl (fun c15_4 => ?_) (fun c15_4 => ?_)
        · replace c15_4 : 4 ≤ ((k : Nat) : Int) := c15_4
          refine xk_push rfl (p := 57) rfl ?_
          refine xk_ret rfl (rfl) ?_
          have ef : sFre m = k := xfst_eq (by omega) (fun i hi => decide_eq_false (hi1 i hi)) (fun _ => decide_eq_true (by omega))
          exact zRet (show y_deal m x = (some (0, (-4)), m) from (by unfold y_deal; rw [ef, if_pos (by omega), if_pos (by omega)])) hR Fr.rf
        · replace c15_4 : ¬ (4 ≤ ((k : Nat) : Int)) := c15_4
          refine xk_load rfl (p := 19) rfl rfl ?_
          refine xk_getf rfl (p := 22) rfl (xob (ly_x L) (by decide)) (v := (2, (((5 + 89 * 0) : Nat) : Int))) (xsl2 rfl (ly_x1 L)) ?_
          refine xk_getf rfl (p := 25) rfl (xob (ly_st L hs) (by decide)) (v := (2, (((7 + 89 * 0) : Nat) : Int))) (xsl2 rfl (ly_s1 L hs)) ?_
          refine xk_load rfl (p := 26) rfl rfl ?_
          refine xk_ald rfl (p := 27) rfl (v := (2, (((78 + 89 * 0 + 4 * k) : Nat) : Int))) (xal2 (ly_sd L hs) (by decide) (show k < 4 by omega) (ly_de L hs (show k < 4 by omega))) ?_
          refine xk_getf rfl (p := 30) rfl (xob ((ly_dl L hs (show k < 4 by omega)).1) (by decide)) (v := (0, sPha m k)) (xsl0 rfl (rPha hR (show k < 4 by omega))) ?_
          have sPha_ := sPha_c hI (show k < 4 by omega)
          refine xk_push rfl (p := 31) rfl ?_
          refine xk_icmp rfl (p := 34) rfl (fun c31_5 => ?_) (fun c31_5 => ?_)
          · replace c31_5 : ¬ (sPha m k = (-1)) := c31_5
            refine xk_inc1 rfl (p := 52) rfl (n := k) rfl (by omega) (ls' := [(2, ((2 : Nat) : Int)), (0, x), (0, ((k + 1 : Nat) : Int))]) rfl ?_
            refine xk_goto rfl ?_
            exact ih3 (by omega)  (by exact xall_up hi1 (by omega))
          · replace c31_5 : sPha m k = (-1) := Decidable.not_not.mp c31_5
            refine xk_load rfl (p := 35) rfl rfl ?_
            refine xk_getf rfl (p := 38) rfl (xob (ly_x L) (by decide)) (v := (2, (((5 + 89 * 0) : Nat) : Int))) (xsl2 rfl (ly_x1 L)) ?_
            refine xk_getf rfl (p := 41) rfl (xob (ly_st L hs) (by decide)) (v := (2, (((7 + 89 * 0) : Nat) : Int))) (xsl2 rfl (ly_s1 L hs)) ?_
            refine xk_load rfl (p := 42) rfl rfl ?_
            refine xk_ald rfl (p := 43) rfl (v := (2, (((78 + 89 * 0 + 4 * k) : Nat) : Int))) (xal2 (ly_sd L hs) (by decide) (show k < 4 by omega) (ly_de L hs (show k < 4 by omega))) ?_
            refine xk_load rfl (p := 44) rfl rfl ?_
            refine xk_call rfl (p := 47) rfl (by decide) rfl (Nat.le_of_ble_eq_true rfl) (Nat.le_of_ble_eq_true rfl) (xrv ((ly_dl L hs (show k < 4 by omega)).1) (by decide)) (as := [(2, (((78 + 89 * 0 + 4 * k) : Nat) : Int)), (0, x)]) (r := []) rfl (m_dbegin (ly_dl L hs (show k < 4 by omega)) (by omega)) ?_
            rintro _ g v3 ⟨rfl, rfl, rfl⟩
            refine xk_load rfl (p := 48) rfl rfl ?_
            refine xk_ret rfl (rfl) ?_
            have ef : sFre m = k := xfst_eq (by omega) (fun i hi => decide_eq_false (hi1 i hi)) (fun _ => decide_eq_true (by omega))
            exact zRet (show y_deal m x = (some (0, ((k : Nat) : Int)), xupd (xupd (xupd m 300 k (x + 1)) 301 k 0) 302 k 0) from (by unfold y_deal; rw [ef, if_pos (by omega), if_neg (by omega)])) (hR.newd hI (by omega) (by omega) (by omega)) (((Fr.rf.up (by omega) (by omega)).up (by omega) (by omega)).up (by omega) (by omega))
      exact lp3 0 (by omega)  (by intro i h; omega)
    · replace c6_2 : ¬ (x < 4) := c6_2
      refine xk_push rfl (p := 10) rfl ?_
      refine xk_ret rfl (rfl) ?_
      exact zRet (show y_deal m x = (some (0, (-1)), m) from (by unfold y_deal; (repeat' split) <;> first | rfl | (exfalso; omega) | (congr 1; omega))) hR Fr.rf
