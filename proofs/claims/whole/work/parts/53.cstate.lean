/-! THE CLASS: THE MOST THAT CAN GO, STATE -/
theorem cLeft_S {m : xD} (hI : Inv m) : cLeft m = if sCom m = -1 then 0 else m 301 (sCom m).toNat + 2 - m 292 13 := by
  have rg := sCom_rng (m := m)
  by_cases c : sCom m = -1
  · rw [if_pos c]
    unfold cLeft
    rw [if_neg (by omega)]
  · rw [if_neg c]
    rcases sRec_c (m := m) with r | r
    · have hd : (sCom m).toNat < 4 := by omega
      have o := iO hI hd (sCom_at c)
      have i := iD hI hd
      have z := (sRec_0 (m := m) (by omega)).2
      have nr : ((nR m (sCom m).toNat : Nat) : Int) = m 301 (sCom m).toNat := (iRn hI hd).1.symm
      unfold cLeft
      rw [if_pos (by omega), if_pos r.1, z]
      omega
    · exact (cLeft_0 hI r.1).1
theorem c_most {d : Nat} {g : xG} {t m : xD} (L : xLay g) (hI : Inv m) (hR : Rep t 0 m) : xCall (d + 11) 108 [(2, ((2 : Nat) : Int))] g t (oQ g t m (0, ((sMo m 15 : Nat) : Int))) := by
  show xOk (d + 11) 108 0 [(2, ((2 : Nat) : Int))] [] g t _
  have iNn_ := iNn hI
  have hs : 0 < 3 := by decide
  have hs1 : 1 < 3 := by decide
  have hs2 : 2 < 3 := by decide
  refine xk_load rfl (p := 1) rfl rfl ?_
  refine xk_getf rfl (p := 4) rfl (xob (ly_x L) (by decide)) (v := (2, ((272 : Nat) : Int))) (xsl2 rfl (ly_x4 L)) ?_
  refine xk_load rfl (p := 5) rfl rfl ?_
  refine xk_getf rfl (p := 8) rfl (xob (ly_x L) (by decide)) (v := (2, (((5 + 89 * 0) : Nat) : Int))) (xsl2 rfl (ly_x1 L)) ?_
  refine xk_load rfl (p := 9) rfl rfl ?_
  refine xk_getf rfl (p := 12) rfl (xob (ly_x L) (by decide)) (v := (2, (((5 + 89 * 0) : Nat) : Int))) (xsl2 rfl (ly_x1 L)) ?_
  refine xk_callp rfl (p := 15) rfl (by decide) rfl (Nat.le_of_ble_eq_true rfl) (Nat.le_of_ble_eq_true rfl) (xrv (ly_st L hs) (by decide)) (as := [(2, (((5 + 89 * 0) : Nat) : Int))]) (r := [(2, (((5 + 89 * 0) : Nat) : Int)), (2, ((272 : Nat) : Int))]) rfl (v := (0, ((nCan m : Nat) : Int))) (xCall_eq (c_dealsThatCanGo L hs hI hR) cCan_eq) ?_
  have nCan_ := nCan_lt (m := m)
  refine xk_push rfl (p := 16) rfl ?_
  refine xk_push rfl (p := 17) rfl ?_
  refine xk_call rfl (p := 20) rfl (by decide) rfl (Nat.le_of_ble_eq_true rfl) (Nat.le_of_ble_eq_true rfl) (xrv (ly_o L) (by decide)) (as := [(2, ((272 : Nat) : Int)), (2, (((5 + 89 * 0) : Nat) : Int)), (0, ((nCan m : Nat) : Int)), (0, (-1)), (0, 0)]) (r := []) rfl (c_run (x := ((nCan m : Nat) : Int)) (y := -1) (z := 0) L hI hR ((bSet_sb nCan_16).mpr (sb_iff.mpr (fun _ _ h => h))) (Or.inl rfl)) ?_
  rintro _ g w9 ⟨rfl, rfl, hG9, hA9⟩
  have hN9 : w9 272 8 = ((sMo m 15 : Nat) : Int) := by
    have h := hA9.2.2.2.2
    rw [Int.toNat_natCast, exC_most] at h
    exact h
  refine xk_load rfl (p := 21) rfl rfl ?_
  refine xk_getf rfl (p := 24) rfl (xob (ly_x L) (by decide)) (v := (2, ((272 : Nat) : Int))) (xsl2 rfl (ly_x4 L)) ?_
  refine xk_getf rfl (p := 27) rfl (xob (ly_o L) (by decide)) (v := (0, ((sMo m 15 : Nat) : Int))) (xsl0 rfl hN9) ?_
  refine xk_ret rfl (rfl) ?_
  exact ⟨rfl, rfl, hR.gt hI hs hG9, hG9⟩

theorem c_state {d : Nat} {g : xG} {t m : xD} {x : Int} (L : xLay g) (hI : Inv m) (hR : Rep t 0 m) : xCall (d + 12) 86 [(2, ((2 : Nat) : Int)), (0, x)] g t (oQ g t m (0, y_state m x)) := by
  show xOk (d + 12) 86 0 [(2, ((2 : Nat) : Int)), (0, x)] [] g t _
  have iNn_ := iNn hI
  have hs : 0 < 3 := by decide
  have hs1 : 1 < 3 := by decide
  have hs2 : 2 < 3 := by decide
  have rc_ := sRec_c (m := m)
  have cl_ := cLeft_S hI
  refine xk_load rfl (p := 1) rfl rfl ?_
  by_cases c1_1 : x = 0
  · refine xk_switch rfl (w := 44) (by rw [c1_1]; rfl) ?_
    refine xk_load rfl (p := 45) rfl rfl ?_
    refine xk_getf rfl (p := 48) rfl (xob (ly_x L) (by decide)) (v := (2, (((5 + 89 * 0) : Nat) : Int))) (xsl2 rfl (ly_x1 L)) ?_
    refine xk_getf rfl (p := 51) rfl (xob (ly_st L hs) (by decide)) (v := (0, m 292 6)) (xsl0 rfl (rT hR)) ?_
    refine xk_ret rfl (rfl) ?_
    exact ⟨rfl, congrArg (fun z => some ((0, z) : xV)) (by unfold y_state; (repeat' split) <;> first | (exfalso; omega) | rfl | omega | (rw [cl_]; first | exact if_pos (by omega) | exact if_neg (by omega))), hR, Gt.rf⟩
  by_cases c1_2 : x = 1
  · refine xk_switch rfl (w := 52) (by rw [c1_2]; rfl) ?_
    refine xk_load rfl (p := 53) rfl rfl ?_
    refine xk_getf rfl (p := 56) rfl (xob (ly_x L) (by decide)) (v := (2, (((5 + 89 * 0) : Nat) : Int))) (xsl2 rfl (ly_x1 L)) ?_
    refine xk_getf rfl (p := 59) rfl (xob (ly_st L hs) (by decide)) (v := (0, sRec m)) (xsl0 rfl (rRec hR)) ?_
    refine xk_if rfl (p := 62) rfl (fun c59_3 => ?_) (fun c59_3 => ?_)
    · replace c59_3 : sRec m = 0 := c59_3
      refine xk_push rfl (p := 67) rfl ?_
      refine xk_ret rfl (rfl) ?_
      exact ⟨rfl, congrArg (fun z => some ((0, z) : xV)) (by unfold y_state; (repeat' split) <;> first | (exfalso; omega) | rfl | omega | (rw [cl_]; first | exact if_pos (by omega) | exact if_neg (by omega))), hR, Gt.rf⟩
    · replace c59_3 : ¬ (sRec m = 0) := c59_3
      refine xk_push rfl (p := 63) rfl ?_
      refine xk_goto rfl ?_
      refine xk_ret rfl (rfl) ?_
      exact ⟨rfl, congrArg (fun z => some ((0, z) : xV)) (by unfold y_state; (repeat' split) <;> first | (exfalso; omega) | rfl | omega | (rw [cl_]; first | exact if_pos (by omega) | exact if_neg (by omega))), hR, Gt.rf⟩
  by_cases c1_4 : x = 2
  · refine xk_switch rfl (w := 68) (by rw [c1_4]; rfl) ?_
    refine xk_load rfl (p := 69) rfl rfl ?_
    refine xk_getf rfl (p := 72) rfl (xob (ly_x L) (by decide)) (v := (2, (((5 + 89 * 0) : Nat) : Int))) (xsl2 rfl (ly_x1 L)) ?_
    refine xk_callp rfl (p := 75) rfl (by decide) rfl (Nat.le_of_ble_eq_true rfl) (Nat.le_of_ble_eq_true rfl) (xrv (ly_st L hs) (by decide)) (as := [(2, (((5 + 89 * 0) : Nat) : Int))]) (r := []) rfl (v := (0, cLeft m)) (c_stepsLeft L hs hI hR) ?_
    refine xk_ret rfl (rfl) ?_
    exact ⟨rfl, congrArg (fun z => some ((0, z) : xV)) (by unfold y_state; (repeat' split) <;> first | (exfalso; omega) | rfl | omega | (rw [cl_]; first | exact if_pos (by omega) | exact if_neg (by omega))), hR, Gt.rf⟩
  by_cases c1_5 : x = 3
  · refine xk_switch rfl (w := 76) (by rw [c1_5]; rfl) ?_
    refine xk_load rfl (p := 77) rfl rfl ?_
    refine xk_getf rfl (p := 80) rfl (xob (ly_x L) (by decide)) (v := (2, (((5 + 89 * 0) : Nat) : Int))) (xsl2 rfl (ly_x1 L)) ?_
    refine xk_getf rfl (p := 83) rfl (xob (ly_st L hs) (by decide)) (v := (0, m 292 14)) (xsl0 rfl (rRun hR)) ?_
    have iP_ := iP hI
    refine xk_if rfl (p := 86) rfl (fun c83_6 => ?_) (fun c83_6 => ?_)
    · replace c83_6 : m 292 14 = 0 := c83_6
      refine xk_push rfl (p := 91) rfl ?_
      refine xk_ret rfl (rfl) ?_
      exact ⟨rfl, congrArg (fun z => some ((0, z) : xV)) (by unfold y_state; (repeat' split) <;> first | (exfalso; omega) | rfl | omega | (rw [cl_]; first | exact if_pos (by omega) | exact if_neg (by omega))), hR, Gt.rf⟩
    · replace c83_6 : ¬ (m 292 14 = 0) := c83_6
      refine xk_push rfl (p := 87) rfl ?_
      refine xk_goto rfl ?_
      refine xk_ret rfl (rfl) ?_
      exact ⟨rfl, congrArg (fun z => some ((0, z) : xV)) (by unfold y_state; (repeat' split) <;> first | (exfalso; omega) | rfl | omega | (rw [cl_]; first | exact if_pos (by omega) | exact if_neg (by omega))), hR, Gt.rf⟩
  by_cases c1_7 : x = 4
  · refine xk_switch rfl (w := 92) (by rw [c1_7]; rfl) ?_
    refine xk_load rfl (p := 93) rfl rfl ?_
    refine xk_getf rfl (p := 96) rfl (xob (ly_x L) (by decide)) (v := (2, (((5 + 89 * 0) : Nat) : Int))) (xsl2 rfl (ly_x1 L)) ?_
    refine xk_getf rfl (p := 99) rfl (xob (ly_st L hs) (by decide)) (v := (0, m 292 14)) (xsl0 rfl (rRun hR)) ?_
    have iP_ := iP hI
    refine xk_if rfl (p := 102) rfl (fun c99_8 => ?_) (fun c99_8 => ?_)
    · replace c99_8 : m 292 14 = 0 := c99_8
      refine xk_push rfl (p := 113) rfl ?_
      refine xk_ret rfl (rfl) ?_
      exact ⟨rfl, congrArg (fun z => some ((0, z) : xV)) (by unfold y_state; (repeat' split) <;> first | (exfalso; omega) | rfl | omega | (rw [cl_]; first | exact if_pos (by omega) | exact if_neg (by omega))), hR, Gt.rf⟩
    · replace c99_8 : ¬ (m 292 14 = 0) := c99_8
      refine xk_load rfl (p := 103) rfl rfl ?_
      refine xk_getf rfl (p := 106) rfl (xob (ly_x L) (by decide)) (v := (2, (((5 + 89 * 0) : Nat) : Int))) (xsl2 rfl (ly_x1 L)) ?_
      refine xk_callp rfl (p := 109) rfl (by decide) rfl (Nat.le_of_ble_eq_true rfl) (Nat.le_of_ble_eq_true rfl) (xrv (ly_st L hs) (by decide)) (as := [(2, (((5 + 89 * 0) : Nat) : Int))]) (r := []) rfl (v := (0, ((xcnt (fun i => decide (¬ m 304 i = 0)) (nN m) : Nat) : Int))) (c_namesWritten L hs hI hR) ?_
      refine xk_goto rfl ?_
      refine xk_ret rfl (rfl) ?_
      exact ⟨rfl, congrArg (fun z => some ((0, z) : xV)) (by unfold y_state; (repeat' split) <;> first | (exfalso; omega) | rfl | omega | (rw [cl_]; first | exact if_pos (by omega) | exact if_neg (by omega))), hR, Gt.rf⟩
  by_cases c1_9 : x = 5
  · refine xk_switch rfl (w := 114) (by rw [c1_9]; rfl) ?_
    refine xk_load rfl (p := 115) rfl rfl ?_
    refine xk_getf rfl (p := 118) rfl (xob (ly_x L) (by decide)) (v := (2, (((5 + 89 * 0) : Nat) : Int))) (xsl2 rfl (ly_x1 L)) ?_
    refine xk_callp rfl (p := 121) rfl (by decide) rfl (Nat.le_of_ble_eq_true rfl) (Nat.le_of_ble_eq_true rfl) (xrv (ly_st L hs) (by decide)) (as := [(2, (((5 + 89 * 0) : Nat) : Int))]) (r := []) rfl (v := (0, ((xbs (fun i => decide (0 < m 300 i)) (4) : Nat) : Int))) (c_allDeals L hs hI hR) ?_
    have xbs_ := xbs_lt (p := fun i => decide (0 < m 300 i)) (K := 4) (by omega)
    refine xk_ret rfl (rfl) ?_
    exact ⟨rfl, congrArg (fun z => some ((0, z) : xV)) (by unfold y_state; (repeat' split) <;> first | (exfalso; omega) | rfl | omega | (rw [cl_]; first | exact if_pos (by omega) | exact if_neg (by omega))), hR, Gt.rf⟩
  by_cases c1_10 : x = 6
  · refine xk_switch rfl (w := 122) (by rw [c1_10]; rfl) ?_
    refine xk_load rfl (p := 123) rfl rfl ?_
    refine xk_call rfl (p := 126) rfl (by decide) rfl (Nat.le_of_ble_eq_true rfl) (Nat.le_of_ble_eq_true rfl) (xrv (ly_x L) (by decide)) (as := [(2, ((2 : Nat) : Int))]) (r := []) rfl (c_most L hI hR) ?_
    rintro _ g w9 ⟨rfl, rfl, hR9, hG9⟩
    refine xk_ret rfl (rfl) ?_
    exact ⟨rfl, congrArg (fun z => some ((0, z) : xV)) (by unfold y_state; (repeat' split) <;> first | (exfalso; omega) | rfl | omega | (rw [cl_]; first | exact if_pos (by omega) | exact if_neg (by omega))), hR9, hG9⟩
  refine xk_switch rfl (w := 127) (if_pos (by first | omega | (simp only [List.length]; omega))) ?_
  refine xk_push rfl (p := 128) rfl ?_
  refine xk_ret rfl (rfl) ?_
  exact ⟨rfl, congrArg (fun z => some ((0, z) : xV)) (by unfold y_state; (repeat' split) <;> first | (exfalso; omega) | rfl | omega | (rw [cl_]; first | exact if_pos (by omega) | exact if_neg (by omega))), hR, Gt.rf⟩
