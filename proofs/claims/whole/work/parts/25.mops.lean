/-! THE MODEL: READS OF THE LAW, SMALL WRITES -/
theorem wF_rng {w : Nat → Int} {R : Nat} (hR : R ≤ 4) (h : ∀ i, 0 ≤ w i ∧ w i ≤ 3) : 0 ≤ wF w R ∧ wF w R ≤ 43 := by
  unfold wF
  have := h (xfst (fun r => decide (0 < w r)) R)
  split <;> omega
theorem sWrong_rng {m : xD} (hI : Inv m) {d : Nat} (hd : d < 4) : 0 ≤ sWrong m d ∧ sWrong m d ≤ 43 := wF_rng (iRn hI hd).2 (fun _ => sWro_rng)
theorem xladd_r {x y : Int} (h1 : -9223372036854775808 ≤ x + y) (h2 : x + y < 9223372036854775808) : xladd x y = x + y := by
  unfold xladd
  rw [← Int64.ofInt_add]
  exact i64_rt h1 h2
def y_of (m : xD) (x : Int) (y : Int) : Int :=
  if 0 ≤ x ∧ x < m 292 0 then (if y = 0 then (sVal m (x.toNat)) else (if y = 1 then (sSto m (x.toNat)) else (if y = 2 then (m 296 (x.toNat)) else (if y = 3 then (m 297 (x.toNat)) else (if y = 4 then (m 295 (x.toNat)) else (if y = 5 then (((nJ m (x.toNat) : Nat) : Int)) else (if y = 6 then (sLock m x (-1)) else (if y = 7 then (((xcnt (fun q => bBef m q (x.toNat)) (nN m) : Nat) : Int)) else (-1))))))))) else (-1)
theorem n_of {d : Nat} {g : xG} {t m : xD} {x y : Int} (L : xLay g) (hM : Mo t m) (hI : Inv m)  : xCall (d + 3) 135 [(2, ((292 : Nat) : Int)), (0, x), (0, y)] g t (xQ g t (some (0, y_of m  x  y ))) := by
  show xOk (d + 3) 135 0 [(2, ((292 : Nat) : Int)), (0, x), (0, y)] [] g t _
  have iNn_ := iNn hI
  refine xk_load rfl (p := 1) rfl rfl ?_
  refine xk_load rfl (p := 2) rfl rfl ?_
  refine xk_callp rfl (p := 5) rfl (by decide) rfl (Nat.le_of_ble_eq_true rfl) (Nat.le_of_ble_eq_true rfl) (xrv (ly_m L) (by decide)) (as := [(2, ((292 : Nat) : Int)), (0, x)]) (r := []) rfl (v := (0, (if 0 ≤ x ∧ x < m 292 0 then (1 : Int) else 0))) (n_isName L hM hI) ?_
  have iNn_ := iNn hI
  refine xk_if rfl (p := 8) rfl (fun c5_1 => ?_) (fun c5_1 => ?_)
  · replace c5_1 : 0 ≤ x ∧ x < m 292 0 := xb_n0 c5_1
    refine xk_load rfl (p := 11) rfl rfl ?_
    by_cases c11_2 : y = 0
    · refine xk_switch rfl (w := 56) (by rw [c11_2]; rfl) ?_
      refine xk_load rfl (p := 57) rfl rfl ?_
      refine xk_load rfl (p := 58) rfl rfl ?_
      refine xk_stk (show _ = (0, ((x.toNat : Nat) : Int)) :: [(2, ((292 : Nat) : Int))] from congrArg (fun z => ((0, z) : xV) :: [(2, ((292 : Nat) : Int))]) (Int.toNat_of_nonneg (show 0 ≤ x by omega)).symm) ?_
      refine xk_callp rfl (p := 61) rfl (by decide) rfl (Nat.le_of_ble_eq_true rfl) (Nat.le_of_ble_eq_true rfl) (xrv (ly_m L) (by decide)) (as := [(2, ((292 : Nat) : Int)), (0, ((x.toNat : Nat) : Int))]) (r := []) rfl (v := (0, sVal m (x.toNat))) (n_value L hM hI (show x.toNat < 12 by omega)) ?_
      refine xk_rete rfl (rfl) ?_
      exact ((if_pos c5_1).trans ((if_pos c11_2))).symm
    by_cases c11_3 : y = 1
    · refine xk_switch rfl (w := 62) (by rw [c11_3]; rfl) ?_
      refine xk_load rfl (p := 63) rfl rfl ?_
      refine xk_load rfl (p := 64) rfl rfl ?_
      refine xk_stk (show _ = (0, ((x.toNat : Nat) : Int)) :: [(2, ((292 : Nat) : Int))] from congrArg (fun z => ((0, z) : xV) :: [(2, ((292 : Nat) : Int))]) (Int.toNat_of_nonneg (show 0 ≤ x by omega)).symm) ?_
      refine xk_callp rfl (p := 67) rfl (by decide) rfl (Nat.le_of_ble_eq_true rfl) (Nat.le_of_ble_eq_true rfl) (xrv (ly_m L) (by decide)) (as := [(2, ((292 : Nat) : Int)), (0, ((x.toNat : Nat) : Int))]) (r := []) rfl (v := (0, sSto m (x.toNat))) (n_stored L hM hI (show x.toNat < 12 by omega)) ?_
      refine xk_rete rfl (rfl) ?_
      exact ((if_pos c5_1).trans ((if_neg c11_2).trans ((if_pos c11_3)))).symm
    by_cases c11_4 : y = 2
    · refine xk_switch rfl (w := 68) (by rw [c11_4]; rfl) ?_
      refine xk_load rfl (p := 69) rfl rfl ?_
      refine xk_getf rfl (p := 72) rfl (xob (ly_m L) (by decide)) (v := (2, ((296 : Nat) : Int))) (xsl2 rfl (ly_mp4 L)) ?_
      refine xk_load rfl (p := 73) rfl rfl ?_
      refine xk_aldi rfl (p := 74) rfl (show 0 ≤ x by omega) (v := (0, m 296 (x.toNat))) ((xal0 (ly_ms4 L) (show x.toNat < 12 by omega)).trans (congrArg (fun z => some (0, z)) (hM 296 (x.toNat) (by decide)))) ?_
      refine xk_rete rfl (rfl) ?_
      exact ((if_pos c5_1).trans ((if_neg c11_2).trans ((if_neg c11_3).trans ((if_pos c11_4))))).symm
    by_cases c11_5 : y = 3
    · refine xk_switch rfl (w := 75) (by rw [c11_5]; rfl) ?_
      refine xk_load rfl (p := 76) rfl rfl ?_
      refine xk_getf rfl (p := 79) rfl (xob (ly_m L) (by decide)) (v := (2, ((297 : Nat) : Int))) (xsl2 rfl (ly_mp5 L)) ?_
      refine xk_load rfl (p := 80) rfl rfl ?_
      refine xk_aldi rfl (p := 81) rfl (show 0 ≤ x by omega) (v := (0, m 297 (x.toNat))) ((xal0 (ly_ms5 L) (show x.toNat < 12 by omega)).trans (congrArg (fun z => some (0, z)) (hM 297 (x.toNat) (by decide)))) ?_
      refine xk_rete rfl (rfl) ?_
      exact ((if_pos c5_1).trans ((if_neg c11_2).trans ((if_neg c11_3).trans ((if_neg c11_4).trans ((if_pos c11_5)))))).symm
    by_cases c11_6 : y = 4
    · refine xk_switch rfl (w := 82) (by rw [c11_6]; rfl) ?_
      refine xk_load rfl (p := 83) rfl rfl ?_
      refine xk_getf rfl (p := 86) rfl (xob (ly_m L) (by decide)) (v := (2, ((295 : Nat) : Int))) (xsl2 rfl (ly_mp3 L)) ?_
      refine xk_load rfl (p := 87) rfl rfl ?_
      refine xk_aldi rfl (p := 88) rfl (show 0 ≤ x by omega) (v := (0, m 295 (x.toNat))) ((xal0 (ly_ms3 L) (show x.toNat < 12 by omega)).trans (congrArg (fun z => some (0, z)) (hM 295 (x.toNat) (by decide)))) ?_
      refine xk_rete rfl (rfl) ?_
      exact ((if_pos c5_1).trans ((if_neg c11_2).trans ((if_neg c11_3).trans ((if_neg c11_4).trans ((if_neg c11_5).trans ((if_pos c11_6))))))).symm
    by_cases c11_7 : y = 5
    · refine xk_switch rfl (w := 89) (by rw [c11_7]; rfl) ?_
      refine xk_load rfl (p := 90) rfl rfl ?_
      refine xk_getf rfl (p := 93) rfl (xob (ly_m L) (by decide)) (v := (2, ((298 : Nat) : Int))) (xsl2 rfl (ly_mp7 L)) ?_
      refine xk_load rfl (p := 94) rfl rfl ?_
      refine xk_aldi rfl (p := 95) rfl (show 0 ≤ x by omega) (v := (0, ((nJ m (x.toNat) : Nat) : Int))) ((xal0 (ly_ms7 L) (show x.toNat < 12 by omega)).trans (congrArg (fun z => some (0, z)) ((hM 298 (x.toNat) (by decide)).trans (iJn hI (show x.toNat < nN m by omega)).1))) ?_
      have iJn_ := iJn hI (show x.toNat < nN m by omega)
      refine xk_rete rfl (rfl) ?_
      exact ((if_pos c5_1).trans ((if_neg c11_2).trans ((if_neg c11_3).trans ((if_neg c11_4).trans ((if_neg c11_5).trans ((if_neg c11_6).trans ((if_pos c11_7)))))))).symm
    by_cases c11_8 : y = 6
    · refine xk_switch rfl (w := 96) (by rw [c11_8]; rfl) ?_
      refine xk_load rfl (p := 97) rfl rfl ?_
      refine xk_load rfl (p := 98) rfl rfl ?_
      refine xk_push rfl (p := 99) rfl ?_
      refine xk_callp rfl (p := 102) rfl (by decide) rfl (Nat.le_of_ble_eq_true rfl) (Nat.le_of_ble_eq_true rfl) (xrv (ly_m L) (by decide)) (as := [(2, ((292 : Nat) : Int)), (0, x), (0, (-1))]) (r := []) rfl (v := (0, sLock m x (-1))) (n_lockedBy L hM hI) ?_
      refine xk_rete rfl (rfl) ?_
      exact ((if_pos c5_1).trans ((if_neg c11_2).trans ((if_neg c11_3).trans ((if_neg c11_4).trans ((if_neg c11_5).trans ((if_neg c11_6).trans ((if_neg c11_7).trans ((if_pos c11_8))))))))).symm
    by_cases c11_9 : y = 7
    · refine xk_switch rfl (w := 103) (by rw [c11_9]; rfl) ?_
      refine xk_load rfl (p := 104) rfl rfl ?_
      refine xk_load rfl (p := 105) rfl rfl ?_
      refine xk_stk (show _ = (0, ((x.toNat : Nat) : Int)) :: [(2, ((292 : Nat) : Int))] from congrArg (fun z => ((0, z) : xV) :: [(2, ((292 : Nat) : Int))]) (Int.toNat_of_nonneg (show 0 ≤ x by omega)).symm) ?_
      refine xk_callp rfl (p := 108) rfl (by decide) rfl (Nat.le_of_ble_eq_true rfl) (Nat.le_of_ble_eq_true rfl) (xrv (ly_m L) (by decide)) (as := [(2, ((292 : Nat) : Int)), (0, ((x.toNat : Nat) : Int))]) (r := []) rfl (v := (0, ((xcnt (fun q => bBef m q (x.toNat)) (nN m) : Nat) : Int))) (n_place L hM hI (show x.toNat < nN m by omega)) ?_
      have xcnt_ := xcnt_le (p := fun q => bBef m q (x.toNat)) (nN m)
      refine xk_rete rfl (rfl) ?_
      exact ((if_pos c5_1).trans ((if_neg c11_2).trans ((if_neg c11_3).trans ((if_neg c11_4).trans ((if_neg c11_5).trans ((if_neg c11_6).trans ((if_neg c11_7).trans ((if_neg c11_8).trans ((if_pos c11_9)))))))))).symm
    refine xk_switch rfl (w := 109) (if_pos (by first | omega | (simp only [List.length]; omega))) ?_
    refine xk_push rfl (p := 110) rfl ?_
    refine xk_rete rfl (rfl) ?_
    exact ((if_pos c5_1).trans ((if_neg c11_2).trans ((if_neg c11_3).trans ((if_neg c11_4).trans ((if_neg c11_5).trans ((if_neg c11_6).trans ((if_neg c11_7).trans ((if_neg c11_8).trans ((if_neg c11_9)))))))))).symm
  · replace c5_1 : ¬ (0 ≤ x ∧ x < m 292 0) := xb_e1 c5_1
    refine xk_push rfl (p := 9) rfl ?_
    refine xk_rete rfl (rfl) ?_
    exact ((if_neg c5_1)).symm

def y_folder (m : xD) (x : Int) (y : Int) : Int :=
  if 0 ≤ x ∧ x < m 292 0 then (if 0 ≤ y ∧ y < m 292 0 then (if bFol m (x.toNat) (y.toNat) = true then 1 else 0) else (-1)) else (-1)
theorem n_folder {d : Nat} {g : xG} {t m : xD} {x y : Int} (L : xLay g) (hM : Mo t m) (hI : Inv m)  : xCall (d + 2) 136 [(2, ((292 : Nat) : Int)), (0, x), (0, y)] g t (xQ g t (some (0, y_folder m  x  y ))) := by
  show xOk (d + 2) 136 0 [(2, ((292 : Nat) : Int)), (0, x), (0, y)] [] g t _
  have iNn_ := iNn hI
  refine xk_load rfl (p := 1) rfl rfl ?_
  refine xk_load rfl (p := 2) rfl rfl ?_
  refine xk_callp rfl (p := 5) rfl (by decide) rfl (Nat.le_of_ble_eq_true rfl) (Nat.le_of_ble_eq_true rfl) (xrv (ly_m L) (by decide)) (as := [(2, ((292 : Nat) : Int)), (0, x)]) (r := []) rfl (v := (0, (if 0 ≤ x ∧ x < m 292 0 then (1 : Int) else 0))) (n_isName L hM hI) ?_
  have iNn_ := iNn hI
  refine xk_if rfl (p := 8) rfl (fun c5_1 => ?_) (fun c5_1 => ?_)
  · replace c5_1 : ¬ (0 ≤ x ∧ x < m 292 0) := xb_e0 c5_1
    refine xk_push rfl (p := 17) rfl ?_
    refine xk_rete rfl (rfl) ?_
    exact ((if_neg c5_1)).symm
  · replace c5_1 : 0 ≤ x ∧ x < m 292 0 := xb_n0 c5_1
    refine xk_load rfl (p := 9) rfl rfl ?_
    refine xk_load rfl (p := 10) rfl rfl ?_
    refine xk_callp rfl (p := 13) rfl (by decide) rfl (Nat.le_of_ble_eq_true rfl) (Nat.le_of_ble_eq_true rfl) (xrv (ly_m L) (by decide)) (as := [(2, ((292 : Nat) : Int)), (0, y)]) (r := []) rfl (v := (0, (if 0 ≤ y ∧ y < m 292 0 then (1 : Int) else 0))) (n_isName L hM hI) ?_
    have iNn_ := iNn hI
    refine xk_if rfl (p := 16) rfl (fun c13_2 => ?_) (fun c13_2 => ?_)
    · replace c13_2 : 0 ≤ y ∧ y < m 292 0 := xb_n0 c13_2
      refine xk_load rfl (p := 19) rfl rfl ?_
      refine xk_load rfl (p := 20) rfl rfl ?_
      refine xk_load rfl (p := 21) rfl rfl ?_
      refine xk_stk (show _ = (0, y) :: (0, ((x.toNat : Nat) : Int)) :: [(2, ((292 : Nat) : Int))] from congrArg (fun z => ((0, y) : xV) :: ((0, z) : xV) :: [(2, ((292 : Nat) : Int))]) (Int.toNat_of_nonneg (show 0 ≤ x by omega)).symm) ?_
      refine xk_stk (show _ = (0, ((y.toNat : Nat) : Int)) :: [(0, ((x.toNat : Nat) : Int)), (2, ((292 : Nat) : Int))] from congrArg (fun z => ((0, z) : xV) :: [(0, ((x.toNat : Nat) : Int)), (2, ((292 : Nat) : Int))]) (Int.toNat_of_nonneg (show 0 ≤ y by omega)).symm) ?_
      refine xk_callp rfl (p := 24) rfl (by decide) rfl (Nat.le_of_ble_eq_true rfl) (Nat.le_of_ble_eq_true rfl) (xrv (ly_m L) (by decide)) (as := [(2, ((292 : Nat) : Int)), (0, ((x.toNat : Nat) : Int)), (0, ((y.toNat : Nat) : Int))]) (r := []) rfl (v := (0, (if bFol m (x.toNat) (y.toNat) = true then (1 : Int) else 0))) (n_isFolder L hM hI (show x.toNat < nN m by omega) (show y.toNat < nN m by omega)) ?_
      refine xk_if rfl (p := 27) rfl (fun c24_3 => ?_) (fun c24_3 => ?_)
      · replace c24_3 : ¬ (bFol m (x.toNat) (y.toNat) = true) := xb_e0 c24_3
        refine xk_push rfl (p := 32) rfl ?_
        refine xk_rete rfl (rfl) ?_
        exact ((if_pos c5_1).trans ((if_pos c13_2).trans ((if_neg c24_3)))).symm
      · replace c24_3 : bFol m (x.toNat) (y.toNat) = true := xb_n0 c24_3
        refine xk_push rfl (p := 28) rfl ?_
        refine xk_goto rfl ?_
        refine xk_rete rfl (rfl) ?_
        exact ((if_pos c5_1).trans ((if_pos c13_2).trans ((if_pos c24_3)))).symm
    · replace c13_2 : ¬ (0 ≤ y ∧ y < m 292 0) := xb_e1 c13_2
      refine xk_push rfl (p := 17) rfl ?_
      refine xk_rete rfl (rfl) ?_
      exact ((if_pos c5_1).trans ((if_neg c13_2))).symm

def y_journal (m : xD) (x : Int) (y : Int) (z : Int) : Int :=
  if 0 ≤ x ∧ x < m 292 0 then (if 0 ≤ y ∧ y ≤ (((nJ m (x.toNat) : Nat) : Int) - 1) then (if 0 ≤ z ∧ z ≤ 2 then (m 299 ((((18 * x) + (3 * y)) + z).toNat)) else (-1)) else (-1)) else (-1)
theorem n_journal {d : Nat} {g : xG} {t m : xD} {x y z : Int} (L : xLay g) (hM : Mo t m) (hI : Inv m)  : xCall (d + 2) 138 [(2, ((292 : Nat) : Int)), (0, x), (0, y), (0, z)] g t (xQ g t (some (0, y_journal m  x  y  z ))) := by
  show xOk (d + 2) 138 0 [(2, ((292 : Nat) : Int)), (0, x), (0, y), (0, z)] [] g t _
  have iNn_ := iNn hI
  refine xk_load rfl (p := 1) rfl rfl ?_
  refine xk_load rfl (p := 2) rfl rfl ?_
  refine xk_callp rfl (p := 5) rfl (by decide) rfl (Nat.le_of_ble_eq_true rfl) (Nat.le_of_ble_eq_true rfl) (xrv (ly_m L) (by decide)) (as := [(2, ((292 : Nat) : Int)), (0, x)]) (r := []) rfl (v := (0, (if 0 ≤ x ∧ x < m 292 0 then (1 : Int) else 0))) (n_isName L hM hI) ?_
  have iNn_ := iNn hI
  refine xk_if rfl (p := 8) rfl (fun c5_1 => ?_) (fun c5_1 => ?_)
  · replace c5_1 : ¬ (0 ≤ x ∧ x < m 292 0) := xb_e0 c5_1
    refine xk_push rfl (p := 34) rfl ?_
    refine xk_rete rfl (rfl) ?_
    exact ((if_neg c5_1)).symm
  · replace c5_1 : 0 ≤ x ∧ x < m 292 0 := xb_n0 c5_1
    refine xk_load rfl (p := 9) rfl rfl ?_
    refine xk_push rfl (p := 10) rfl ?_
    refine xk_load rfl (p := 11) rfl rfl ?_
    refine xk_getf rfl (p := 14) rfl (xob (ly_m L) (by decide)) (v := (2, ((298 : Nat) : Int))) (xsl2 rfl (ly_mp7 L)) ?_
    refine xk_load rfl (p := 15) rfl rfl ?_
    refine xk_aldi rfl (p := 16) rfl (show 0 ≤ x by omega) (v := (0, ((nJ m (x.toNat) : Nat) : Int))) ((xal0 (ly_ms7 L) (show x.toNat < 12 by omega)).trans (congrArg (fun z => some (0, z)) ((hM 298 (x.toNat) (by decide)).trans (iJn hI (show x.toNat < nN m by omega)).1))) ?_
    have iJn_ := iJn hI (show x.toNat < nN m by omega)
    refine xk_push rfl (p := 17) rfl ?_
    refine xk_bin rfl (p := 18) rfl (z := (((nJ m (x.toNat) : Nat) : Int) - 1)) (congrArg some (xsub_r (by omega) (by omega))) ?_
    refine xk_callp rfl (p := 21) rfl (by decide) rfl (Nat.le_of_ble_eq_true rfl) (Nat.le_of_ble_eq_true rfl) (rfl) (as := [(0, y), (0, 0), (0, (((nJ m (x.toNat) : Nat) : Int) - 1))]) (r := []) rfl (v := (0, (if 0 ≤ y ∧ y ≤ (((nJ m (x.toNat) : Nat) : Int) - 1) then (1 : Int) else 0))) (n_within) ?_
    refine xk_if rfl (p := 24) rfl (fun c21_2 => ?_) (fun c21_2 => ?_)
    · replace c21_2 : ¬ (0 ≤ y ∧ y ≤ (((nJ m (x.toNat) : Nat) : Int) - 1)) := xb_e0 c21_2
      refine xk_push rfl (p := 34) rfl ?_
      refine xk_rete rfl (rfl) ?_
      exact ((if_pos c5_1).trans ((if_neg c21_2))).symm
    · replace c21_2 : 0 ≤ y ∧ y ≤ (((nJ m (x.toNat) : Nat) : Int) - 1) := xb_n0 c21_2
      refine xk_load rfl (p := 25) rfl rfl ?_
      refine xk_push rfl (p := 26) rfl ?_
      refine xk_push rfl (p := 27) rfl ?_
      refine xk_callp rfl (p := 30) rfl (by decide) rfl (Nat.le_of_ble_eq_true rfl) (Nat.le_of_ble_eq_true rfl) (rfl) (as := [(0, z), (0, 0), (0, 2)]) (r := []) rfl (v := (0, (if 0 ≤ z ∧ z ≤ 2 then (1 : Int) else 0))) (n_within) ?_
      refine xk_if rfl (p := 33) rfl (fun c30_3 => ?_) (fun c30_3 => ?_)
      · replace c30_3 : 0 ≤ z ∧ z ≤ 2 := xb_n0 c30_3
        refine xk_load rfl (p := 36) rfl rfl ?_
        refine xk_getf rfl (p := 39) rfl (xob (ly_m L) (by decide)) (v := (2, ((299 : Nat) : Int))) (xsl2 rfl (ly_mp8 L)) ?_
        refine xk_push rfl (p := 41) rfl ?_
        refine xk_load rfl (p := 42) rfl rfl ?_
        refine xk_bin rfl (p := 43) rfl (z := (18 * x)) (congrArg some (xmul_r (by omega) (by omega))) ?_
        refine xk_push rfl (p := 44) rfl ?_
        refine xk_load rfl (p := 45) rfl rfl ?_
        refine xk_bin rfl (p := 46) rfl (z := (3 * y)) (congrArg some (xmul_r (by omega) (by omega))) ?_
        refine xk_bin rfl (p := 47) rfl (z := ((18 * x) + (3 * y))) (congrArg some (xadd_r (by omega) (by omega))) ?_
        refine xk_load rfl (p := 48) rfl rfl ?_
        refine xk_bin rfl (p := 49) rfl (z := (((18 * x) + (3 * y)) + z)) (congrArg some (xadd_r (by omega) (by omega))) ?_
        refine xk_aldi rfl (p := 50) rfl (show 0 ≤ (((18 * x) + (3 * y)) + z) by omega) (v := (0, m 299 ((((18 * x) + (3 * y)) + z).toNat))) ((xal0 (ly_ms8 L) (show (((18 * x) + (3 * y)) + z).toNat < 216 by omega)).trans (congrArg (fun z => some (0, z)) (hM 299 ((((18 * x) + (3 * y)) + z).toNat) (by decide)))) ?_
        refine xk_rete rfl (rfl) ?_
        exact ((if_pos c5_1).trans ((if_pos c21_2).trans ((if_pos c30_3)))).symm
      · replace c30_3 : ¬ (0 ≤ z ∧ z ≤ 2) := xb_e1 c30_3
        refine xk_push rfl (p := 34) rfl ?_
        refine xk_rete rfl (rfl) ?_
        exact ((if_pos c5_1).trans ((if_pos c21_2).trans ((if_neg c30_3)))).symm

def y_told (m : xD) (x : Int) (y : Int) : Int :=
  if 0 ≤ x ∧ x < 4 ∧ 0 < m 300 x.toNat then (if y = 0 then ((m 300 (x.toNat) - 1)) else (if y = 1 then (((nR m (x.toNat) : Nat) : Int)) else (if y = 2 then (m 302 (x.toNat)) else (if y = 3 then (if m 302 (x.toNat) = 0 then (sWrong m (x.toNat)) else 0) else (-1))))) else (-1)
theorem n_told {d : Nat} {g : xG} {t m : xD} {x y : Int} (L : xLay g) (hM : Mo t m) (hI : Inv m)  : xCall (d + 5) 164 [(2, ((292 : Nat) : Int)), (0, x), (0, y)] g t (xQ g t (some (0, y_told m  x  y ))) := by
  show xOk (d + 5) 164 0 [(2, ((292 : Nat) : Int)), (0, x), (0, y)] [] g t _
  have iNn_ := iNn hI
  refine xk_load rfl (p := 1) rfl rfl ?_
  refine xk_load rfl (p := 2) rfl rfl ?_
  refine xk_callp rfl (p := 5) rfl (by decide) rfl (Nat.le_of_ble_eq_true rfl) (Nat.le_of_ble_eq_true rfl) (xrv (ly_m L) (by decide)) (as := [(2, ((292 : Nat) : Int)), (0, x)]) (r := []) rfl (v := (0, (if 0 ≤ x ∧ x < 4 ∧ 0 < m 300 x.toNat then (1 : Int) else 0))) (n_isDeal L hM hI) ?_
  refine xk_if rfl (p := 8) rfl (fun c5_1 => ?_) (fun c5_1 => ?_)
  · replace c5_1 : 0 ≤ x ∧ x < 4 ∧ 0 < m 300 x.toNat := xb_n0 c5_1
    refine xk_load rfl (p := 11) rfl rfl ?_
    by_cases c11_2 : y = 0
    · refine xk_switch rfl (w := 40) (by rw [c11_2]; rfl) ?_
      refine xk_load rfl (p := 41) rfl rfl ?_
      refine xk_getf rfl (p := 44) rfl (xob (ly_m L) (by decide)) (v := (2, ((300 : Nat) : Int))) (xsl2 rfl (ly_mp9 L)) ?_
      refine xk_load rfl (p := 45) rfl rfl ?_
      refine xk_aldi rfl (p := 46) rfl (show 0 ≤ x by omega) (v := (0, m 300 (x.toNat))) ((xal0 (ly_ms9 L) (show x.toNat < 4 by omega)).trans (congrArg (fun z => some (0, z)) (hM 300 (x.toNat) (by decide)))) ?_
      have iD_ := iD hI (show x.toNat < 4 by omega)
      refine xk_push rfl (p := 47) rfl ?_
      refine xk_bin rfl (p := 48) rfl (z := (m 300 (x.toNat) - 1)) (congrArg some (xsub_r (by omega) (by omega))) ?_
      refine xk_rete rfl (rfl) ?_
      exact ((if_pos c5_1).trans ((if_pos c11_2))).symm
    by_cases c11_3 : y = 1
    · refine xk_switch rfl (w := 49) (by rw [c11_3]; rfl) ?_
      refine xk_load rfl (p := 50) rfl rfl ?_
      refine xk_getf rfl (p := 53) rfl (xob (ly_m L) (by decide)) (v := (2, ((301 : Nat) : Int))) (xsl2 rfl (ly_mp10 L)) ?_
      refine xk_load rfl (p := 54) rfl rfl ?_
      refine xk_aldi rfl (p := 55) rfl (show 0 ≤ x by omega) (v := (0, ((nR m (x.toNat) : Nat) : Int))) ((xal0 (ly_ms10 L) (show x.toNat < 4 by omega)).trans (congrArg (fun z => some (0, z)) ((hM 301 (x.toNat) (by decide)).trans (iRn hI (show x.toNat < 4 by omega)).1))) ?_
      have iRn_ := iRn hI (show x.toNat < 4 by omega)
      refine xk_rete rfl (rfl) ?_
      exact ((if_pos c5_1).trans ((if_neg c11_2).trans ((if_pos c11_3)))).symm
    by_cases c11_4 : y = 2
    · refine xk_switch rfl (w := 56) (by rw [c11_4]; rfl) ?_
      refine xk_load rfl (p := 57) rfl rfl ?_
      refine xk_getf rfl (p := 60) rfl (xob (ly_m L) (by decide)) (v := (2, ((302 : Nat) : Int))) (xsl2 rfl (ly_mp11 L)) ?_
      refine xk_load rfl (p := 61) rfl rfl ?_
      refine xk_aldi rfl (p := 62) rfl (show 0 ≤ x by omega) (v := (0, m 302 (x.toNat))) ((xal0 (ly_ms11 L) (show x.toNat < 4 by omega)).trans (congrArg (fun z => some (0, z)) (hM 302 (x.toNat) (by decide)))) ?_
      have iD_ := iD hI (show x.toNat < 4 by omega)
      refine xk_rete rfl (rfl) ?_
      exact ((if_pos c5_1).trans ((if_neg c11_2).trans ((if_neg c11_3).trans ((if_pos c11_4))))).symm
    by_cases c11_5 : y = 3
    · refine xk_switch rfl (w := 63) (by rw [c11_5]; rfl) ?_
      refine xk_load rfl (p := 64) rfl rfl ?_
      refine xk_getf rfl (p := 67) rfl (xob (ly_m L) (by decide)) (v := (2, ((302 : Nat) : Int))) (xsl2 rfl (ly_mp11 L)) ?_
      refine xk_load rfl (p := 68) rfl rfl ?_
      refine xk_aldi rfl (p := 69) rfl (show 0 ≤ x by omega) (v := (0, m 302 (x.toNat))) ((xal0 (ly_ms11 L) (show x.toNat < 4 by omega)).trans (congrArg (fun z => some (0, z)) (hM 302 (x.toNat) (by decide)))) ?_
      have iD_ := iD hI (show x.toNat < 4 by omega)
      refine xk_if rfl (p := 72) rfl (fun c69_6 => ?_) (fun c69_6 => ?_)
      · replace c69_6 : ¬ (m 302 (x.toNat) = 0) := c69_6
        refine xk_push rfl (p := 81) rfl ?_
        refine xk_rete rfl (rfl) ?_
        exact ((if_pos c5_1).trans ((if_neg c11_2).trans ((if_neg c11_3).trans ((if_neg c11_4).trans ((if_pos c11_5).trans ((if_neg c69_6))))))).symm
      · replace c69_6 : m 302 (x.toNat) = 0 := Decidable.not_not.mp c69_6
        refine xk_load rfl (p := 73) rfl rfl ?_
        refine xk_load rfl (p := 74) rfl rfl ?_
        refine xk_stk (show _ = (0, ((x.toNat : Nat) : Int)) :: [(2, ((292 : Nat) : Int))] from congrArg (fun z => ((0, z) : xV) :: [(2, ((292 : Nat) : Int))]) (Int.toNat_of_nonneg (show 0 ≤ x by omega)).symm) ?_
        refine xk_callp rfl (p := 77) rfl (by decide) rfl (Nat.le_of_ble_eq_true rfl) (Nat.le_of_ble_eq_true rfl) (xrv (ly_m L) (by decide)) (as := [(2, ((292 : Nat) : Int)), (0, ((x.toNat : Nat) : Int))]) (r := []) rfl (v := (0, sWrong m (x.toNat))) (n_wrong L hM hI (show x.toNat < 4 by omega) (by omega)) ?_
        have sWrong_ := sWrong_rng hI (d := x.toNat) (show x.toNat < 4 by omega)
        refine xk_goto rfl ?_
        refine xk_rete rfl (rfl) ?_
        exact ((if_pos c5_1).trans ((if_neg c11_2).trans ((if_neg c11_3).trans ((if_neg c11_4).trans ((if_pos c11_5).trans ((if_pos c69_6))))))).symm
    refine xk_switch rfl (w := 82) (if_pos (by first | omega | (simp only [List.length]; omega))) ?_
    refine xk_push rfl (p := 83) rfl ?_
    refine xk_rete rfl (rfl) ?_
    exact ((if_pos c5_1).trans ((if_neg c11_2).trans ((if_neg c11_3).trans ((if_neg c11_4).trans ((if_neg c11_5)))))).symm
  · replace c5_1 : ¬ (0 ≤ x ∧ x < 4 ∧ 0 < m 300 x.toNat) := xb_e1 c5_1
    refine xk_push rfl (p := 9) rfl ?_
    refine xk_rete rfl (rfl) ?_
    exact ((if_neg c5_1)).symm

def y_taken (m : xD) (x : Int) (y : Int) : Int :=
  if 0 ≤ y ∧ y ≤ 3 then (if 0 ≤ x ∧ x < 4 ∧ 0 < m 300 x.toNat then (if y = 0 then ((m 300 (x.toNat) - 1)) else (if (m 300 (x.toNat) - 1) = y then ((m 300 (x.toNat) - 1)) else (if (m 300 (x.toNat) - 1) = 3 then (if y = 1 then ((m 300 (x.toNat) - 1)) else (-12)) else (-12)))) else (-11)) else (-2)
theorem n_taken {d : Nat} {g : xG} {t m : xD} {x y : Int} (L : xLay g) (hM : Mo t m) (hI : Inv m)  : xCall (d + 2) 191 [(2, ((292 : Nat) : Int)), (0, x), (0, y)] g t (xQ g t (some (0, y_taken m  x  y ))) := by
  show xOk (d + 2) 191 0 [(2, ((292 : Nat) : Int)), (0, x), (0, y), (3, 0)] [] g t _
  have iNn_ := iNn hI
  refine xk_load rfl (p := 1) rfl rfl ?_
  refine xk_push rfl (p := 2) rfl ?_
  refine xk_push rfl (p := 3) rfl ?_
  refine xk_callp rfl (p := 6) rfl (by decide) rfl (Nat.le_of_ble_eq_true rfl) (Nat.le_of_ble_eq_true rfl) (rfl) (as := [(0, y), (0, 0), (0, 3)]) (r := []) rfl (v := (0, (if 0 ≤ y ∧ y ≤ 3 then (1 : Int) else 0))) (n_within) ?_
  refine xk_if rfl (p := 9) rfl (fun c6_1 => ?_) (fun c6_1 => ?_)
  · replace c6_1 : 0 ≤ y ∧ y ≤ 3 := xb_n0 c6_1
    refine xk_load rfl (p := 13) rfl rfl ?_
    refine xk_load rfl (p := 14) rfl rfl ?_
    refine xk_callp rfl (p := 17) rfl (by decide) rfl (Nat.le_of_ble_eq_true rfl) (Nat.le_of_ble_eq_true rfl) (xrv (ly_m L) (by decide)) (as := [(2, ((292 : Nat) : Int)), (0, x)]) (r := []) rfl (v := (0, (if 0 ≤ x ∧ x < 4 ∧ 0 < m 300 x.toNat then (1 : Int) else 0))) (n_isDeal L hM hI) ?_
    refine xk_if rfl (p := 20) rfl (fun c17_2 => ?_) (fun c17_2 => ?_)
    · replace c17_2 : 0 ≤ x ∧ x < 4 ∧ 0 < m 300 x.toNat := xb_n0 c17_2
      refine xk_load rfl (p := 24) rfl rfl ?_
      refine xk_getf rfl (p := 27) rfl (xob (ly_m L) (by decide)) (v := (2, ((300 : Nat) : Int))) (xsl2 rfl (ly_mp9 L)) ?_
      refine xk_load rfl (p := 28) rfl rfl ?_
      refine xk_aldi rfl (p := 29) rfl (show 0 ≤ x by omega) (v := (0, m 300 (x.toNat))) ((xal0 (ly_ms9 L) (show x.toNat < 4 by omega)).trans (congrArg (fun z => some (0, z)) (hM 300 (x.toNat) (by decide)))) ?_
      have iD_ := iD hI (show x.toNat < 4 by omega)
      refine xk_push rfl (p := 30) rfl ?_
      refine xk_bin rfl (p := 31) rfl (z := (m 300 (x.toNat) - 1)) (congrArg some (xsub_r (by omega) (by omega))) ?_
      refine xk_store rfl (p := 32) rfl (by decide) (Nat.le_of_ble_eq_true rfl) (ls' := [(2, ((292 : Nat) : Int)), (0, x), (0, y), (0, (m 300 (x.toNat) - 1))]) rfl ?_
      refine xk_load rfl (p := 33) rfl rfl ?_
      refine xk_if rfl (p := 36) rfl (fun c33_3 => ?_) (fun c33_3 => ?_)
      · replace c33_3 : y = 0 := c33_3
        refine xk_load rfl (p := 52) rfl rfl ?_
        refine xk_goto rfl ?_
        refine xk_rete rfl (rfl) ?_
        exact ((if_pos c6_1).trans ((if_pos c17_2).trans ((if_pos c33_3)))).symm
      · replace c33_3 : ¬ (y = 0) := c33_3
        refine xk_load rfl (p := 37) rfl rfl ?_
        refine xk_load rfl (p := 38) rfl rfl ?_
        refine xk_icmp rfl (p := 41) rfl (fun c38_4 => ?_) (fun c38_4 => ?_)
        · replace c38_4 : (m 300 (x.toNat) - 1) = y := c38_4
          refine xk_load rfl (p := 52) rfl rfl ?_
          refine xk_goto rfl ?_
          refine xk_rete rfl (rfl) ?_
          exact ((if_pos c6_1).trans ((if_pos c17_2).trans ((if_neg c33_3).trans ((if_pos c38_4))))).symm
        · replace c38_4 : ¬ ((m 300 (x.toNat) - 1) = y) := c38_4
          refine xk_load rfl (p := 42) rfl rfl ?_
          refine xk_push rfl (p := 43) rfl ?_
          refine xk_icmp rfl (p := 46) rfl (fun c43_5 => ?_) (fun c43_5 => ?_)
          · replace c43_5 : ¬ ((m 300 (x.toNat) - 1) = 3) := c43_5
            refine xk_push rfl (p := 57) rfl ?_
            refine xk_rete rfl (rfl) ?_
            exact ((if_pos c6_1).trans ((if_pos c17_2).trans ((if_neg c33_3).trans ((if_neg c38_4).trans ((if_neg c43_5)))))).symm
          · replace c43_5 : (m 300 (x.toNat) - 1) = 3 := Decidable.not_not.mp c43_5
            refine xk_load rfl (p := 47) rfl rfl ?_
            refine xk_push rfl (p := 48) rfl ?_
            refine xk_icmp rfl (p := 51) rfl (fun c48_6 => ?_) (fun c48_6 => ?_)
            · replace c48_6 : ¬ (y = 1) := c48_6
              refine xk_push rfl (p := 57) rfl ?_
              refine xk_rete rfl (rfl) ?_
              exact ((if_pos c6_1).trans ((if_pos c17_2).trans ((if_neg c33_3).trans ((if_neg c38_4).trans ((if_pos c43_5).trans ((if_neg c48_6))))))).symm
            · replace c48_6 : y = 1 := Decidable.not_not.mp c48_6
              refine xk_load rfl (p := 52) rfl rfl ?_
              refine xk_goto rfl ?_
              refine xk_rete rfl (rfl) ?_
              exact ((if_pos c6_1).trans ((if_pos c17_2).trans ((if_neg c33_3).trans ((if_neg c38_4).trans ((if_pos c43_5).trans ((if_pos c48_6))))))).symm
    · replace c17_2 : ¬ (0 ≤ x ∧ x < 4 ∧ 0 < m 300 x.toNat) := xb_e1 c17_2
      refine xk_push rfl (p := 22) rfl ?_
      refine xk_rete rfl (rfl) ?_
      exact ((if_pos c6_1).trans ((if_neg c17_2))).symm
  · replace c6_1 : ¬ (0 ≤ y ∧ y ≤ 3) := xb_e1 c6_1
    refine xk_push rfl (p := 11) rfl ?_
    refine xk_rete rfl (rfl) ?_
    exact ((if_neg c6_1)).symm

def y_feed (m : xD) (x : Int) : Option xV × xD :=
  if 0 ≤ x ∧ x ≤ 127 then (if m 292 17 = 100 then ((some (0, (-4)), m)) else ((some (0, (m 292 17 + 1)), xupd (xupd m 292 17 (m 292 17 + 1)) 305 ((m 292 17).toNat) x))) else ((some (0, (-2)), m))
theorem n_feed {d : Nat} {g : xG} {t m : xD} {x : Int} (L : xLay g) (hM : Mo t m) (hI : Inv m) (hX : MX m) : xCall (d + 1) 119 [(2, ((292 : Nat) : Int)), (0, x)] g t (yQ g t (y_feed m  x )) := by
  show xOk (d + 1) 119 0 [(2, ((292 : Nat) : Int)), (0, x)] [] g t _
  have iNn_ := iNn hI
  have hX1 := hX.1
  have hX2 := hX.2.1
  refine xk_load rfl (p := 1) rfl rfl ?_
  refine xk_push rfl (p := 2) rfl ?_
  refine xk_push rfl (p := 4) rfl ?_
  refine xk_callp rfl (p := 7) rfl (by decide) rfl (Nat.le_of_ble_eq_true rfl) (Nat.le_of_ble_eq_true rfl) (rfl) (as := [(0, x), (0, 0), (0, 127)]) (r := []) rfl (v := (0, (if 0 ≤ x ∧ x ≤ 127 then (1 : Int) else 0))) (n_within) ?_
  refine xk_if rfl (p := 10) rfl (fun c7_1 => ?_) (fun c7_1 => ?_)
  · replace c7_1 : 0 ≤ x ∧ x ≤ 127 := xb_n0 c7_1
    refine xk_load rfl (p := 14) rfl rfl ?_
    refine xk_getf rfl (p := 17) rfl (xob (ly_m L) (by decide)) (v := (0, m 292 17)) (xsl0 rfl (hM 292 17 (by decide))) ?_
    refine xk_push rfl (p := 19) rfl ?_
    refine xk_icmp rfl (p := 22) rfl (fun c19_2 => ?_) (fun c19_2 => ?_)
    · replace c19_2 : ¬ (m 292 17 = 100) := c19_2
      refine xk_load rfl (p := 26) rfl rfl ?_
      refine xk_getf rfl (p := 29) rfl (xob (ly_m L) (by decide)) (v := (2, ((305 : Nat) : Int))) (xsl2 rfl (ly_mp18 L)) ?_
      refine xk_load rfl (p := 30) rfl rfl ?_
      refine xk_dup rfl (p := 31) rfl (show ¬ (2 : Nat) = 1 by decide) ?_
      refine xk_getf rfl (p := 34) rfl (xob (ly_m L) (by decide)) (v := (0, m 292 17)) (xsl0 rfl (hM 292 17 (by decide))) ?_
      refine xk_dupx1 rfl (p := 35) rfl (show ¬ ((0 : Nat) = 1 ∨ (2 : Nat) = 1) by decide) ?_
      refine xk_push rfl (p := 36) rfl ?_
      refine xk_bin rfl (p := 37) rfl (z := (m 292 17 + 1)) (congrArg some (xadd_r (by omega) (by omega))) ?_
      refine xk_putf rfl (p := 40) rfl (xob (ly_m L) (by decide)) rfl (by decide) (by decide) (fun h => absurd h (by decide)) (by omega) ?_
      refine xk_load rfl (p := 41) rfl rfl ?_
      refine xk_asti rfl (p := 42) rfl (show 0 ≤ m 292 17 by omega) (by decide) rfl (xsk (ly_ms18 L)) (xsn (ly_ms18 L) (show (m 292 17).toNat < 100 by omega)) (by omega) ?_
      refine xk_load rfl (p := 43) rfl rfl ?_
      refine xk_getf rfl (p := 46) rfl (xob (ly_m L) (by decide)) (v := (0, (m 292 17 + 1))) (xsl0 rfl ((xupd_ne (by omega)).trans (xupd_eq))) ?_
      refine xk_ret rfl (rfl) ?_
      exact yRet ((if_pos c7_1).trans ((if_neg c19_2))) ((hM.up).up) (((Md.rf).up (by decide)).up (by decide))
    · replace c19_2 : m 292 17 = 100 := Decidable.not_not.mp c19_2
      refine xk_push rfl (p := 24) rfl ?_
      refine xk_ret rfl (rfl) ?_
      exact yRet ((if_pos c7_1).trans ((if_pos c19_2))) (hM) (Md.rf)
  · replace c7_1 : ¬ (0 ≤ x ∧ x ≤ 127) := xb_e1 c7_1
    refine xk_push rfl (p := 12) rfl ?_
    refine xk_ret rfl (rfl) ?_
    exact yRet ((if_neg c7_1)) (hM) (Md.rf)

def y_put (m : xD) (x : Int) (y : Int) (z : Int) (w : Int) : Option xV × xD :=
  if 0 ≤ x ∧ x < 4 ∧ 0 < m 300 x.toNat then (if 0 ≤ y ∧ y < m 292 0 then (if (-1) ≤ z ∧ z ≤ 999 then (if 0 ≤ w ∧ w ≤ 999 then (if m 302 (x.toNat) = 0 then (if sRow m (x.toNat) y = (-1) then (if ((nR m (x.toNat) : Nat) : Int) = 4 then ((some (0, (-4)), m)) else ((some (0, ((nR m (x.toNat) + 1 : Nat) : Int)), xupd (xupd (xupd (xupd m 303 (((12 * x) + ((nR m (x.toNat) : Nat) : Int)).toNat) y) 303 ((((12 * x) + ((nR m (x.toNat) : Nat) : Int)) + 4).toNat) z) 303 ((((12 * x) + ((nR m (x.toNat) : Nat) : Int)) + 8).toNat) w) 301 (x.toNat) ((nR m (x.toNat) + 1 : Nat) : Int)))) else ((some (0, (-3)), m))) else ((some (0, (-3)), m))) else ((some (0, (-2)), m))) else ((some (0, (-2)), m))) else ((some (0, (-1)), m))) else ((some (0, (-1)), m))
theorem n_put {d : Nat} {g : xG} {t m : xD} {x y z w : Int} (L : xLay g) (hM : Mo t m) (hI : Inv m)  : xCall (d + 2) 143 [(2, ((292 : Nat) : Int)), (0, x), (0, y), (0, z), (0, w)] g t (yQ g t (y_put m  x  y  z  w )) := by
  show xOk (d + 2) 143 0 [(2, ((292 : Nat) : Int)), (0, x), (0, y), (0, z), (0, w), (3, 0)] [] g t _
  have iNn_ := iNn hI
  refine xk_load rfl (p := 1) rfl rfl ?_
  refine xk_load rfl (p := 2) rfl rfl ?_
  refine xk_callp rfl (p := 5) rfl (by decide) rfl (Nat.le_of_ble_eq_true rfl) (Nat.le_of_ble_eq_true rfl) (xrv (ly_m L) (by decide)) (as := [(2, ((292 : Nat) : Int)), (0, x)]) (r := []) rfl (v := (0, (if 0 ≤ x ∧ x < 4 ∧ 0 < m 300 x.toNat then (1 : Int) else 0))) (n_isDeal L hM hI) ?_
  refine xk_if rfl (p := 8) rfl (fun c5_1 => ?_) (fun c5_1 => ?_)
  · replace c5_1 : ¬ (0 ≤ x ∧ x < 4 ∧ 0 < m 300 x.toNat) := xb_e0 c5_1
    refine xk_push rfl (p := 17) rfl ?_
    refine xk_ret rfl (rfl) ?_
    exact yRet ((if_neg c5_1)) (hM) (Md.rf)
  · replace c5_1 : 0 ≤ x ∧ x < 4 ∧ 0 < m 300 x.toNat := xb_n0 c5_1
    refine xk_load rfl (p := 9) rfl rfl ?_
    refine xk_load rfl (p := 10) rfl rfl ?_
    refine xk_callp rfl (p := 13) rfl (by decide) rfl (Nat.le_of_ble_eq_true rfl) (Nat.le_of_ble_eq_true rfl) (xrv (ly_m L) (by decide)) (as := [(2, ((292 : Nat) : Int)), (0, y)]) (r := []) rfl (v := (0, (if 0 ≤ y ∧ y < m 292 0 then (1 : Int) else 0))) (n_isName L hM hI) ?_
    have iNn_ := iNn hI
    refine xk_if rfl (p := 16) rfl (fun c13_2 => ?_) (fun c13_2 => ?_)
    · replace c13_2 : 0 ≤ y ∧ y < m 292 0 := xb_n0 c13_2
      refine xk_load rfl (p := 19) rfl rfl ?_
      refine xk_push rfl (p := 20) rfl ?_
      refine xk_push rfl (p := 23) rfl ?_
      refine xk_callp rfl (p := 26) rfl (by decide) rfl (Nat.le_of_ble_eq_true rfl) (Nat.le_of_ble_eq_true rfl) (rfl) (as := [(0, z), (0, (-1)), (0, 999)]) (r := []) rfl (v := (0, (if (-1) ≤ z ∧ z ≤ 999 then (1 : Int) else 0))) (n_within) ?_
      refine xk_if rfl (p := 29) rfl (fun c26_3 => ?_) (fun c26_3 => ?_)
      · replace c26_3 : ¬ ((-1) ≤ z ∧ z ≤ 999) := xb_e0 c26_3
        refine xk_push rfl (p := 39) rfl ?_
        refine xk_ret rfl (rfl) ?_
        exact yRet ((if_pos c5_1).trans ((if_pos c13_2).trans ((if_neg c26_3)))) (hM) (Md.rf)
      · replace c26_3 : (-1) ≤ z ∧ z ≤ 999 := xb_n0 c26_3
        refine xk_load rfl (p := 31) rfl rfl ?_
        refine xk_callp rfl (p := 34) rfl (by decide) rfl (Nat.le_of_ble_eq_true rfl) (Nat.le_of_ble_eq_true rfl) (rfl) (as := [(0, w)]) (r := []) rfl (v := (0, (if 0 ≤ w ∧ w ≤ 999 then (1 : Int) else 0))) (n_isValue) ?_
        refine xk_if rfl (p := 37) rfl (fun c34_4 => ?_) (fun c34_4 => ?_)
        · replace c34_4 : 0 ≤ w ∧ w ≤ 999 := xb_n0 c34_4
          refine xk_load rfl (p := 41) rfl rfl ?_
          refine xk_getf rfl (p := 44) rfl (xob (ly_m L) (by decide)) (v := (2, ((302 : Nat) : Int))) (xsl2 rfl (ly_mp11 L)) ?_
          refine xk_load rfl (p := 45) rfl rfl ?_
          refine xk_aldi rfl (p := 46) rfl (show 0 ≤ x by omega) (v := (0, m 302 (x.toNat))) ((xal0 (ly_ms11 L) (show x.toNat < 4 by omega)).trans (congrArg (fun z => some (0, z)) (hM 302 (x.toNat) (by decide)))) ?_
          have iD_ := iD hI (show x.toNat < 4 by omega)
          refine xk_if rfl (p := 49) rfl (fun c46_5 => ?_) (fun c46_5 => ?_)
          · replace c46_5 : ¬ (m 302 (x.toNat) = 0) := c46_5
            refine xk_push rfl (p := 61) rfl ?_
            refine xk_ret rfl (rfl) ?_
            exact yRet ((if_pos c5_1).trans ((if_pos c13_2).trans ((if_pos c26_3).trans ((if_pos c34_4).trans ((if_neg c46_5)))))) (hM) (Md.rf)
          · replace c46_5 : m 302 (x.toNat) = 0 := Decidable.not_not.mp c46_5
            refine xk_load rfl (p := 50) rfl rfl ?_
            refine xk_load rfl (p := 51) rfl rfl ?_
            refine xk_load rfl (p := 52) rfl rfl ?_
            refine xk_stk (show _ = (0, y) :: (0, ((x.toNat : Nat) : Int)) :: [(2, ((292 : Nat) : Int))] from congrArg (fun z => ((0, y) : xV) :: ((0, z) : xV) :: [(2, ((292 : Nat) : Int))]) (Int.toNat_of_nonneg (show 0 ≤ x by omega)).symm) ?_
            refine xk_callp rfl (p := 55) rfl (by decide) rfl (Nat.le_of_ble_eq_true rfl) (Nat.le_of_ble_eq_true rfl) (xrv (ly_m L) (by decide)) (as := [(2, ((292 : Nat) : Int)), (0, ((x.toNat : Nat) : Int)), (0, y)]) (r := []) rfl (v := (0, sRow m (x.toNat) y)) (n_rowFor L hM hI (show x.toNat < 4 by omega)) ?_
            have sRow_ := sRow_rng (m := m) (d := x.toNat) (x := y)
            have iRn_ := iRn hI (show x.toNat < 4 by omega)
            refine xk_push rfl (p := 56) rfl ?_
            refine xk_icmp rfl (p := 59) rfl (fun c56_6 => ?_) (fun c56_6 => ?_)
            · replace c56_6 : sRow m (x.toNat) y = (-1) := c56_6
              refine xk_load rfl (p := 63) rfl rfl ?_
              refine xk_getf rfl (p := 66) rfl (xob (ly_m L) (by decide)) (v := (2, ((301 : Nat) : Int))) (xsl2 rfl (ly_mp10 L)) ?_
              refine xk_load rfl (p := 67) rfl rfl ?_
              refine xk_aldi rfl (p := 68) rfl (show 0 ≤ x by omega) (v := (0, ((nR m (x.toNat) : Nat) : Int))) ((xal0 (ly_ms10 L) (show x.toNat < 4 by omega)).trans (congrArg (fun z => some (0, z)) ((hM 301 (x.toNat) (by decide)).trans (iRn hI (show x.toNat < 4 by omega)).1))) ?_
              have iRn_ := iRn hI (show x.toNat < 4 by omega)
              refine xk_push rfl (p := 69) rfl ?_
              refine xk_icmp rfl (p := 72) rfl (fun c69_7 => ?_) (fun c69_7 => ?_)
              · replace c69_7 : ¬ (((nR m (x.toNat) : Nat) : Int) = 4) := c69_7
                refine xk_push rfl (p := 77) rfl ?_
                refine xk_load rfl (p := 78) rfl rfl ?_
                refine xk_bin rfl (p := 79) rfl (z := (12 * x)) (congrArg some (xmul_r (by omega) (by omega))) ?_
                refine xk_load rfl (p := 80) rfl rfl ?_
                refine xk_getf rfl (p := 83) rfl (xob (ly_m L) (by decide)) (v := (2, ((301 : Nat) : Int))) (xsl2 rfl (ly_mp10 L)) ?_
                refine xk_load rfl (p := 84) rfl rfl ?_
                refine xk_aldi rfl (p := 85) rfl (show 0 ≤ x by omega) (v := (0, ((nR m (x.toNat) : Nat) : Int))) ((xal0 (ly_ms10 L) (show x.toNat < 4 by omega)).trans (congrArg (fun z => some (0, z)) ((hM 301 (x.toNat) (by decide)).trans (iRn hI (show x.toNat < 4 by omega)).1))) ?_
                have iRn_ := iRn hI (show x.toNat < 4 by omega)
                refine xk_bin rfl (p := 86) rfl (z := ((12 * x) + ((nR m (x.toNat) : Nat) : Int))) (congrArg some (xadd_r (by omega) (by omega))) ?_
                refine xk_store rfl (p := 88) rfl (by decide) (Nat.le_of_ble_eq_true rfl) (ls' := [(2, ((292 : Nat) : Int)), (0, x), (0, y), (0, z), (0, w), (0, ((12 * x) + ((nR m (x.toNat) : Nat) : Int)))]) rfl ?_
                refine xk_load rfl (p := 89) rfl rfl ?_
                refine xk_getf rfl (p := 92) rfl (xob (ly_m L) (by decide)) (v := (2, ((303 : Nat) : Int))) (xsl2 rfl (ly_mp12 L)) ?_
                refine xk_load rfl (p := 94) rfl rfl ?_
                refine xk_load rfl (p := 95) rfl rfl ?_
                refine xk_asti rfl (p := 96) rfl (show 0 ≤ ((12 * x) + ((nR m (x.toNat) : Nat) : Int)) by omega) (by decide) rfl (xsk (ly_ms12 L)) (xsn (ly_ms12 L) (show ((12 * x) + ((nR m (x.toNat) : Nat) : Int)).toNat < 48 by omega)) (by omega) ?_
                refine xk_load rfl (p := 97) rfl rfl ?_
                refine xk_getf rfl (p := 100) rfl (xob (ly_m L) (by decide)) (v := (2, ((303 : Nat) : Int))) (xsl2 rfl (ly_mp12 L)) ?_
                refine xk_load rfl (p := 102) rfl rfl ?_
                refine xk_push rfl (p := 103) rfl ?_
                refine xk_bin rfl (p := 104) rfl (z := (((12 * x) + ((nR m (x.toNat) : Nat) : Int)) + 4)) (congrArg some (xadd_r (by omega) (by omega))) ?_
                refine xk_load rfl (p := 105) rfl rfl ?_
                refine xk_asti rfl (p := 106) rfl (show 0 ≤ (((12 * x) + ((nR m (x.toNat) : Nat) : Int)) + 4) by omega) (by decide) rfl (xsk (ly_ms12 L)) (xsn (ly_ms12 L) (show (((12 * x) + ((nR m (x.toNat) : Nat) : Int)) + 4).toNat < 48 by omega)) (by omega) ?_
                refine xk_load rfl (p := 107) rfl rfl ?_
                refine xk_getf rfl (p := 110) rfl (xob (ly_m L) (by decide)) (v := (2, ((303 : Nat) : Int))) (xsl2 rfl (ly_mp12 L)) ?_
                refine xk_load rfl (p := 112) rfl rfl ?_
                refine xk_push rfl (p := 114) rfl ?_
                refine xk_bin rfl (p := 115) rfl (z := (((12 * x) + ((nR m (x.toNat) : Nat) : Int)) + 8)) (congrArg some (xadd_r (by omega) (by omega))) ?_
                refine xk_load rfl (p := 117) rfl rfl ?_
                refine xk_asti rfl (p := 118) rfl (show 0 ≤ (((12 * x) + ((nR m (x.toNat) : Nat) : Int)) + 8) by omega) (by decide) rfl (xsk (ly_ms12 L)) (xsn (ly_ms12 L) (show (((12 * x) + ((nR m (x.toNat) : Nat) : Int)) + 8).toNat < 48 by omega)) (by omega) ?_
                refine xk_load rfl (p := 119) rfl rfl ?_
                refine xk_getf rfl (p := 122) rfl (xob (ly_m L) (by decide)) (v := (2, ((301 : Nat) : Int))) (xsl2 rfl (ly_mp10 L)) ?_
                refine xk_load rfl (p := 123) rfl rfl ?_
                refine xk_dup2 rfl (p := 124) rfl (show ¬ ((0 : Nat) = 1 ∨ (2 : Nat) = 1) by decide) ?_
                refine xk_aldi rfl (p := 125) rfl (show 0 ≤ x by omega) (v := (0, ((nR m (x.toNat) : Nat) : Int))) ((xal0 (ly_ms10 L) (show x.toNat < 4 by omega)).trans (congrArg (fun z => some (0, z)) (((xupd_ne (by omega)).trans (((xupd_ne (by omega)).trans (((xupd_ne (by omega)).trans ((hM 301 (x.toNat) (by decide)).trans (iRn hI (show x.toNat < 4 by omega)).1))))))))) ?_
                have iRn_ := iRn hI (show x.toNat < 4 by omega)
                refine xk_push rfl (p := 126) rfl ?_
                refine xk_bin rfl (p := 127) rfl (z := ((nR m (x.toNat) + 1 : Nat) : Int)) (congrArg some (xadd_n (n := nR m (x.toNat)) (m := 1) (by omega))) ?_
                refine xk_asti rfl (p := 128) rfl (show 0 ≤ x by omega) (by decide) rfl (xsk (ly_ms10 L)) (xsn (ly_ms10 L) (show x.toNat < 4 by omega)) (by omega) ?_
                refine xk_load rfl (p := 129) rfl rfl ?_
                refine xk_getf rfl (p := 132) rfl (xob (ly_m L) (by decide)) (v := (2, ((301 : Nat) : Int))) (xsl2 rfl (ly_mp10 L)) ?_
                refine xk_load rfl (p := 133) rfl rfl ?_
                refine xk_aldi rfl (p := 134) rfl (show 0 ≤ x by omega) (v := (0, ((nR m (x.toNat) + 1 : Nat) : Int))) ((xal0 (ly_ms10 L) (show x.toNat < 4 by omega)).trans (congrArg (fun z => some (0, z)) (xupd_eq))) ?_
                refine xk_ret rfl (rfl) ?_
                exact yRet ((if_pos c5_1).trans ((if_pos c13_2).trans ((if_pos c26_3).trans ((if_pos c34_4).trans ((if_pos c46_5).trans ((if_pos c56_6).trans ((if_neg c69_7)))))))) ((((hM.up).up).up).up) (((((Md.rf).up (by decide)).up (by decide)).up (by decide)).up (by decide))
              · replace c69_7 : ((nR m (x.toNat) : Nat) : Int) = 4 := Decidable.not_not.mp c69_7
                refine xk_push rfl (p := 74) rfl ?_
                refine xk_ret rfl (rfl) ?_
                exact yRet ((if_pos c5_1).trans ((if_pos c13_2).trans ((if_pos c26_3).trans ((if_pos c34_4).trans ((if_pos c46_5).trans ((if_pos c56_6).trans ((if_pos c69_7)))))))) (hM) (Md.rf)
            · replace c56_6 : ¬ (sRow m (x.toNat) y = (-1)) := c56_6
              refine xk_push rfl (p := 61) rfl ?_
              refine xk_ret rfl (rfl) ?_
              exact yRet ((if_pos c5_1).trans ((if_pos c13_2).trans ((if_pos c26_3).trans ((if_pos c34_4).trans ((if_pos c46_5).trans ((if_neg c56_6))))))) (hM) (Md.rf)
        · replace c34_4 : ¬ (0 ≤ w ∧ w ≤ 999) := xb_e1 c34_4
          refine xk_push rfl (p := 39) rfl ?_
          refine xk_ret rfl (rfl) ?_
          exact yRet ((if_pos c5_1).trans ((if_pos c13_2).trans ((if_pos c26_3).trans ((if_neg c34_4))))) (hM) (Md.rf)
    · replace c13_2 : ¬ (0 ≤ y ∧ y < m 292 0) := xb_e1 c13_2
      refine xk_push rfl (p := 17) rfl ?_
      refine xk_ret rfl (rfl) ?_
      exact yRet ((if_pos c5_1).trans ((if_neg c13_2))) (hM) (Md.rf)

def y_prepare (m : xD) (x : Int) : Option xV × xD :=
  if 0 ≤ x ∧ x < 4 ∧ 0 < m 300 x.toNat then (if m 302 (x.toNat) = 0 then (if sWrong m (x.toNat) ≤ 0 then ((some (0, 0), xupd m 302 (x.toNat) 1)) else ((some (0, ((-10) - sWrong m (x.toNat))), m))) else ((some (0, (-3)), m))) else ((some (0, (-1)), m))
theorem n_prepare {d : Nat} {g : xG} {t m : xD} {x : Int} (L : xLay g) (hM : Mo t m) (hI : Inv m)  : xCall (d + 5) 149 [(2, ((292 : Nat) : Int)), (0, x)] g t (yQ g t (y_prepare m  x )) := by
  show xOk (d + 5) 149 0 [(2, ((292 : Nat) : Int)), (0, x), (3, 0)] [] g t _
  have iNn_ := iNn hI
  refine xk_load rfl (p := 1) rfl rfl ?_
  refine xk_load rfl (p := 2) rfl rfl ?_
  refine xk_callp rfl (p := 5) rfl (by decide) rfl (Nat.le_of_ble_eq_true rfl) (Nat.le_of_ble_eq_true rfl) (xrv (ly_m L) (by decide)) (as := [(2, ((292 : Nat) : Int)), (0, x)]) (r := []) rfl (v := (0, (if 0 ≤ x ∧ x < 4 ∧ 0 < m 300 x.toNat then (1 : Int) else 0))) (n_isDeal L hM hI) ?_
  refine xk_if rfl (p := 8) rfl (fun c5_1 => ?_) (fun c5_1 => ?_)
  · replace c5_1 : 0 ≤ x ∧ x < 4 ∧ 0 < m 300 x.toNat := xb_n0 c5_1
    refine xk_load rfl (p := 11) rfl rfl ?_
    refine xk_getf rfl (p := 14) rfl (xob (ly_m L) (by decide)) (v := (2, ((302 : Nat) : Int))) (xsl2 rfl (ly_mp11 L)) ?_
    refine xk_load rfl (p := 15) rfl rfl ?_
    refine xk_aldi rfl (p := 16) rfl (show 0 ≤ x by omega) (v := (0, m 302 (x.toNat))) ((xal0 (ly_ms11 L) (show x.toNat < 4 by omega)).trans (congrArg (fun z => some (0, z)) (hM 302 (x.toNat) (by decide)))) ?_
    have iD_ := iD hI (show x.toNat < 4 by omega)
    refine xk_if rfl (p := 19) rfl (fun c16_2 => ?_) (fun c16_2 => ?_)
    · replace c16_2 : m 302 (x.toNat) = 0 := c16_2
      refine xk_load rfl (p := 23) rfl rfl ?_
      refine xk_load rfl (p := 24) rfl rfl ?_
      refine xk_stk (show _ = (0, ((x.toNat : Nat) : Int)) :: [(2, ((292 : Nat) : Int))] from congrArg (fun z => ((0, z) : xV) :: [(2, ((292 : Nat) : Int))]) (Int.toNat_of_nonneg (show 0 ≤ x by omega)).symm) ?_
      refine xk_callp rfl (p := 27) rfl (by decide) rfl (Nat.le_of_ble_eq_true rfl) (Nat.le_of_ble_eq_true rfl) (xrv (ly_m L) (by decide)) (as := [(2, ((292 : Nat) : Int)), (0, ((x.toNat : Nat) : Int))]) (r := []) rfl (v := (0, sWrong m (x.toNat))) (n_wrong L hM hI (show x.toNat < 4 by omega) (by omega)) ?_
      have sWrong_ := sWrong_rng hI (d := x.toNat) (show x.toNat < 4 by omega)
      refine xk_store rfl (p := 28) rfl (by decide) (Nat.le_of_ble_eq_true rfl) (ls' := [(2, ((292 : Nat) : Int)), (0, x), (0, sWrong m (x.toNat))]) rfl ?_
      refine xk_load rfl (p := 29) rfl rfl ?_
      refine xk_if rfl (p := 32) rfl (fun c29_3 => ?_) (fun c29_3 => ?_)
      · replace c29_3 : sWrong m (x.toNat) ≤ 0 := c29_3
        refine xk_load rfl (p := 38) rfl rfl ?_
        refine xk_getf rfl (p := 41) rfl (xob (ly_m L) (by decide)) (v := (2, ((302 : Nat) : Int))) (xsl2 rfl (ly_mp11 L)) ?_
        refine xk_load rfl (p := 42) rfl rfl ?_
        refine xk_push rfl (p := 43) rfl ?_
        refine xk_asti rfl (p := 44) rfl (show 0 ≤ x by omega) (by decide) rfl (xsk (ly_ms11 L)) (xsn (ly_ms11 L) (show x.toNat < 4 by omega)) (by omega) ?_
        refine xk_push rfl (p := 45) rfl ?_
        refine xk_ret rfl (rfl) ?_
        exact yRet ((if_pos c5_1).trans ((if_pos c16_2).trans ((if_pos c29_3)))) (hM.up) ((Md.rf).up (by decide))
      · replace c29_3 : ¬ (sWrong m (x.toNat) ≤ 0) := c29_3
        refine xk_push rfl (p := 34) rfl ?_
        refine xk_load rfl (p := 35) rfl rfl ?_
        refine xk_bin rfl (p := 36) rfl (z := ((-10) - sWrong m (x.toNat))) (congrArg some (xsub_r (by omega) (by omega))) ?_
        refine xk_ret rfl (rfl) ?_
        exact yRet ((if_pos c5_1).trans ((if_pos c16_2).trans ((if_neg c29_3)))) (hM) (Md.rf)
    · replace c16_2 : ¬ (m 302 (x.toNat) = 0) := c16_2
      refine xk_push rfl (p := 21) rfl ?_
      refine xk_ret rfl (rfl) ?_
      exact yRet ((if_pos c5_1).trans ((if_neg c16_2))) (hM) (Md.rf)
  · replace c5_1 : ¬ (0 ≤ x ∧ x < 4 ∧ 0 < m 300 x.toNat) := xb_e1 c5_1
    refine xk_push rfl (p := 9) rfl ?_
    refine xk_ret rfl (rfl) ?_
    exact yRet ((if_neg c5_1)) (hM) (Md.rf)

def y_commit (m : xD) (x : Int) : Option xV × xD :=
  if 0 ≤ x ∧ x < 4 ∧ 0 < m 300 x.toNat then (if m 302 (x.toNat) = 1 then (if sCom m = (-1) then ((some (0, ((nR m (x.toNat) + 2 : Nat) : Int)), xupd (xupd m 302 (x.toNat) 2) 292 13 0)) else ((some (0, (-3)), m))) else ((some (0, (-3)), m))) else ((some (0, (-1)), m))
theorem n_commit {d : Nat} {g : xG} {t m : xD} {x : Int} (L : xLay g) (hM : Mo t m) (hI : Inv m)  : xCall (d + 2) 150 [(2, ((292 : Nat) : Int)), (0, x)] g t (yQ g t (y_commit m  x )) := by
  show xOk (d + 2) 150 0 [(2, ((292 : Nat) : Int)), (0, x)] [] g t _
  have iNn_ := iNn hI
  refine xk_load rfl (p := 1) rfl rfl ?_
  refine xk_load rfl (p := 2) rfl rfl ?_
  refine xk_callp rfl (p := 5) rfl (by decide) rfl (Nat.le_of_ble_eq_true rfl) (Nat.le_of_ble_eq_true rfl) (xrv (ly_m L) (by decide)) (as := [(2, ((292 : Nat) : Int)), (0, x)]) (r := []) rfl (v := (0, (if 0 ≤ x ∧ x < 4 ∧ 0 < m 300 x.toNat then (1 : Int) else 0))) (n_isDeal L hM hI) ?_
  refine xk_if rfl (p := 8) rfl (fun c5_1 => ?_) (fun c5_1 => ?_)
  · replace c5_1 : 0 ≤ x ∧ x < 4 ∧ 0 < m 300 x.toNat := xb_n0 c5_1
    refine xk_load rfl (p := 11) rfl rfl ?_
    refine xk_getf rfl (p := 14) rfl (xob (ly_m L) (by decide)) (v := (2, ((302 : Nat) : Int))) (xsl2 rfl (ly_mp11 L)) ?_
    refine xk_load rfl (p := 15) rfl rfl ?_
    refine xk_aldi rfl (p := 16) rfl (show 0 ≤ x by omega) (v := (0, m 302 (x.toNat))) ((xal0 (ly_ms11 L) (show x.toNat < 4 by omega)).trans (congrArg (fun z => some (0, z)) (hM 302 (x.toNat) (by decide)))) ?_
    have iD_ := iD hI (show x.toNat < 4 by omega)
    refine xk_push rfl (p := 17) rfl ?_
    refine xk_icmp rfl (p := 20) rfl (fun c17_2 => ?_) (fun c17_2 => ?_)
    · replace c17_2 : ¬ (m 302 (x.toNat) = 1) := c17_2
      refine xk_push rfl (p := 30) rfl ?_
      refine xk_ret rfl (rfl) ?_
      exact yRet ((if_pos c5_1).trans ((if_neg c17_2))) (hM) (Md.rf)
    · replace c17_2 : m 302 (x.toNat) = 1 := Decidable.not_not.mp c17_2
      refine xk_load rfl (p := 21) rfl rfl ?_
      refine xk_callp rfl (p := 24) rfl (by decide) rfl (Nat.le_of_ble_eq_true rfl) (Nat.le_of_ble_eq_true rfl) (xrv (ly_m L) (by decide)) (as := [(2, ((292 : Nat) : Int))]) (r := []) rfl (v := (0, sCom m)) (n_committing L hM hI) ?_
      have sCom_ := sCom_rng (m := m)
      refine xk_push rfl (p := 25) rfl ?_
      refine xk_icmp rfl (p := 28) rfl (fun c25_3 => ?_) (fun c25_3 => ?_)
      · replace c25_3 : sCom m = (-1) := c25_3
        refine xk_load rfl (p := 32) rfl rfl ?_
        refine xk_getf rfl (p := 35) rfl (xob (ly_m L) (by decide)) (v := (2, ((302 : Nat) : Int))) (xsl2 rfl (ly_mp11 L)) ?_
        refine xk_load rfl (p := 36) rfl rfl ?_
        refine xk_push rfl (p := 37) rfl ?_
        refine xk_asti rfl (p := 38) rfl (show 0 ≤ x by omega) (by decide) rfl (xsk (ly_ms11 L)) (xsn (ly_ms11 L) (show x.toNat < 4 by omega)) (by omega) ?_
        refine xk_load rfl (p := 39) rfl rfl ?_
        refine xk_push rfl (p := 40) rfl ?_
        refine xk_putf rfl (p := 43) rfl (xob (ly_m L) (by decide)) rfl (by decide) (by decide) (fun h => absurd h (by decide)) (by omega) ?_
        refine xk_load rfl (p := 44) rfl rfl ?_
        refine xk_getf rfl (p := 47) rfl (xob (ly_m L) (by decide)) (v := (2, ((301 : Nat) : Int))) (xsl2 rfl (ly_mp10 L)) ?_
        refine xk_load rfl (p := 48) rfl rfl ?_
        refine xk_aldi rfl (p := 49) rfl (show 0 ≤ x by omega) (v := (0, ((nR m (x.toNat) : Nat) : Int))) ((xal0 (ly_ms10 L) (show x.toNat < 4 by omega)).trans (congrArg (fun z => some (0, z)) (((xupd_ne (by omega)).trans (((xupd_ne (by omega)).trans ((hM 301 (x.toNat) (by decide)).trans (iRn hI (show x.toNat < 4 by omega)).1))))))) ?_
        have iRn_ := iRn hI (show x.toNat < 4 by omega)
        refine xk_push rfl (p := 50) rfl ?_
        refine xk_bin rfl (p := 51) rfl (z := ((nR m (x.toNat) + 2 : Nat) : Int)) (congrArg some (xadd_n (n := nR m (x.toNat)) (m := 2) (by omega))) ?_
        refine xk_ret rfl (rfl) ?_
        exact yRet ((if_pos c5_1).trans ((if_pos c17_2).trans ((if_pos c25_3)))) ((hM.up).up) (((Md.rf).up (by decide)).up (by decide))
      · replace c25_3 : ¬ (sCom m = (-1)) := c25_3
        refine xk_push rfl (p := 30) rfl ?_
        refine xk_ret rfl (rfl) ?_
        exact yRet ((if_pos c5_1).trans ((if_pos c17_2).trans ((if_neg c25_3)))) (hM) (Md.rf)
  · replace c5_1 : ¬ (0 ≤ x ∧ x < 4 ∧ 0 < m 300 x.toNat) := xb_e1 c5_1
    refine xk_push rfl (p := 9) rfl ?_
    refine xk_ret rfl (rfl) ?_
    exact yRet ((if_neg c5_1)) (hM) (Md.rf)

def y_abandon (m : xD) (x : Int) : Option xV × xD :=
  if 0 ≤ x ∧ x < 4 ∧ 0 < m 300 x.toNat then (if m 302 (x.toNat) = 2 then ((some (0, (-3)), m)) else ((some (0, ((nR m (x.toNat) : Nat) : Int)), xupd m 300 (x.toNat) 0))) else ((some (0, (-1)), m))
theorem n_abandon {d : Nat} {g : xG} {t m : xD} {x : Int} (L : xLay g) (hM : Mo t m) (hI : Inv m)  : xCall (d + 2) 151 [(2, ((292 : Nat) : Int)), (0, x)] g t (yQ g t (y_abandon m  x )) := by
  show xOk (d + 2) 151 0 [(2, ((292 : Nat) : Int)), (0, x)] [] g t _
  have iNn_ := iNn hI
  refine xk_load rfl (p := 1) rfl rfl ?_
  refine xk_load rfl (p := 2) rfl rfl ?_
  refine xk_callp rfl (p := 5) rfl (by decide) rfl (Nat.le_of_ble_eq_true rfl) (Nat.le_of_ble_eq_true rfl) (xrv (ly_m L) (by decide)) (as := [(2, ((292 : Nat) : Int)), (0, x)]) (r := []) rfl (v := (0, (if 0 ≤ x ∧ x < 4 ∧ 0 < m 300 x.toNat then (1 : Int) else 0))) (n_isDeal L hM hI) ?_
  refine xk_if rfl (p := 8) rfl (fun c5_1 => ?_) (fun c5_1 => ?_)
  · replace c5_1 : 0 ≤ x ∧ x < 4 ∧ 0 < m 300 x.toNat := xb_n0 c5_1
    refine xk_load rfl (p := 11) rfl rfl ?_
    refine xk_getf rfl (p := 14) rfl (xob (ly_m L) (by decide)) (v := (2, ((302 : Nat) : Int))) (xsl2 rfl (ly_mp11 L)) ?_
    refine xk_load rfl (p := 15) rfl rfl ?_
    refine xk_aldi rfl (p := 16) rfl (show 0 ≤ x by omega) (v := (0, m 302 (x.toNat))) ((xal0 (ly_ms11 L) (show x.toNat < 4 by omega)).trans (congrArg (fun z => some (0, z)) (hM 302 (x.toNat) (by decide)))) ?_
    have iD_ := iD hI (show x.toNat < 4 by omega)
    refine xk_push rfl (p := 17) rfl ?_
    refine xk_icmp rfl (p := 20) rfl (fun c17_2 => ?_) (fun c17_2 => ?_)
    · replace c17_2 : ¬ (m 302 (x.toNat) = 2) := c17_2
      refine xk_load rfl (p := 24) rfl rfl ?_
      refine xk_getf rfl (p := 27) rfl (xob (ly_m L) (by decide)) (v := (2, ((300 : Nat) : Int))) (xsl2 rfl (ly_mp9 L)) ?_
      refine xk_load rfl (p := 28) rfl rfl ?_
      refine xk_push rfl (p := 29) rfl ?_
      refine xk_asti rfl (p := 30) rfl (show 0 ≤ x by omega) (by decide) rfl (xsk (ly_ms9 L)) (xsn (ly_ms9 L) (show x.toNat < 4 by omega)) (by omega) ?_
      refine xk_load rfl (p := 31) rfl rfl ?_
      refine xk_getf rfl (p := 34) rfl (xob (ly_m L) (by decide)) (v := (2, ((301 : Nat) : Int))) (xsl2 rfl (ly_mp10 L)) ?_
      refine xk_load rfl (p := 35) rfl rfl ?_
      refine xk_aldi rfl (p := 36) rfl (show 0 ≤ x by omega) (v := (0, ((nR m (x.toNat) : Nat) : Int))) ((xal0 (ly_ms10 L) (show x.toNat < 4 by omega)).trans (congrArg (fun z => some (0, z)) (((xupd_ne (by omega)).trans ((hM 301 (x.toNat) (by decide)).trans (iRn hI (show x.toNat < 4 by omega)).1))))) ?_
      have iRn_ := iRn hI (show x.toNat < 4 by omega)
      refine xk_ret rfl (rfl) ?_
      exact yRet ((if_pos c5_1).trans ((if_neg c17_2))) (hM.up) ((Md.rf).up (by decide))
    · replace c17_2 : m 302 (x.toNat) = 2 := Decidable.not_not.mp c17_2
      refine xk_push rfl (p := 22) rfl ?_
      refine xk_ret rfl (rfl) ?_
      exact yRet ((if_pos c5_1).trans ((if_pos c17_2))) (hM) (Md.rf)
  · replace c5_1 : ¬ (0 ≤ x ∧ x < 4 ∧ 0 < m 300 x.toNat) := xb_e1 c5_1
    refine xk_push rfl (p := 9) rfl ?_
    refine xk_ret rfl (rfl) ?_
    exact yRet ((if_neg c5_1)) (hM) (Md.rf)

def y_see (m : xD) (x : Int) (y : Int) : Option xV × xD :=
  if x = (-1) then ((some (0, 0), xupd m 292 19 0)) else (if 0 ≤ x ∧ x < m 292 0 then (if 0 ≤ y ∧ y ≤ 999 then (if m 292 19 = 5 then ((some (0, (-4)), m)) else ((some (0, (m 292 19 + 1)), xupd (xupd (xupd m 306 ((m 292 19).toNat) x) 292 19 (m 292 19 + 1)) 307 ((m 292 19).toNat) y))) else ((some (0, (-2)), m))) else ((some (0, (-1)), m)))
theorem n_see {d : Nat} {g : xG} {t m : xD} {x y : Int} (L : xLay g) (hM : Mo t m) (hI : Inv m)  : xCall (d + 2) 177 [(2, ((292 : Nat) : Int)), (0, x), (0, y)] g t (yQ g t (y_see m  x  y )) := by
  show xOk (d + 2) 177 0 [(2, ((292 : Nat) : Int)), (0, x), (0, y)] [] g t _
  have iNn_ := iNn hI
  refine xk_load rfl (p := 1) rfl rfl ?_
  refine xk_push rfl (p := 2) rfl ?_
  refine xk_icmp rfl (p := 5) rfl (fun c2_1 => ?_) (fun c2_1 => ?_)
  · replace c2_1 : ¬ (x = (-1)) := c2_1
    refine xk_load rfl (p := 13) rfl rfl ?_
    refine xk_load rfl (p := 14) rfl rfl ?_
    refine xk_callp rfl (p := 17) rfl (by decide) rfl (Nat.le_of_ble_eq_true rfl) (Nat.le_of_ble_eq_true rfl) (xrv (ly_m L) (by decide)) (as := [(2, ((292 : Nat) : Int)), (0, x)]) (r := []) rfl (v := (0, (if 0 ≤ x ∧ x < m 292 0 then (1 : Int) else 0))) (n_isName L hM hI) ?_
    have iNn_ := iNn hI
    refine xk_if rfl (p := 20) rfl (fun c17_2 => ?_) (fun c17_2 => ?_)
    · replace c17_2 : 0 ≤ x ∧ x < m 292 0 := xb_n0 c17_2
      refine xk_load rfl (p := 23) rfl rfl ?_
      refine xk_callp rfl (p := 26) rfl (by decide) rfl (Nat.le_of_ble_eq_true rfl) (Nat.le_of_ble_eq_true rfl) (rfl) (as := [(0, y)]) (r := []) rfl (v := (0, (if 0 ≤ y ∧ y ≤ 999 then (1 : Int) else 0))) (n_isValue) ?_
      refine xk_if rfl (p := 29) rfl (fun c26_3 => ?_) (fun c26_3 => ?_)
      · replace c26_3 : 0 ≤ y ∧ y ≤ 999 := xb_n0 c26_3
        refine xk_load rfl (p := 33) rfl rfl ?_
        refine xk_getf rfl (p := 36) rfl (xob (ly_m L) (by decide)) (v := (0, m 292 19)) (xsl0 rfl (hM 292 19 (by decide))) ?_
        have iS_ := iS hI
        refine xk_push rfl (p := 37) rfl ?_
        refine xk_icmp rfl (p := 40) rfl (fun c37_4 => ?_) (fun c37_4 => ?_)
        · replace c37_4 : ¬ (m 292 19 = 5) := c37_4
          refine xk_load rfl (p := 44) rfl rfl ?_
          refine xk_getf rfl (p := 47) rfl (xob (ly_m L) (by decide)) (v := (2, ((306 : Nat) : Int))) (xsl2 rfl (ly_mp20 L)) ?_
          refine xk_load rfl (p := 48) rfl rfl ?_
          refine xk_getf rfl (p := 51) rfl (xob (ly_m L) (by decide)) (v := (0, m 292 19)) (xsl0 rfl (hM 292 19 (by decide))) ?_
          have iS_ := iS hI
          refine xk_load rfl (p := 52) rfl rfl ?_
          refine xk_asti rfl (p := 53) rfl (show 0 ≤ m 292 19 by omega) (by decide) rfl (xsk (ly_ms20 L)) (xsn (ly_ms20 L) (show (m 292 19).toNat < 5 by omega)) (by omega) ?_
          refine xk_load rfl (p := 54) rfl rfl ?_
          refine xk_getf rfl (p := 57) rfl (xob (ly_m L) (by decide)) (v := (2, ((307 : Nat) : Int))) (xsl2 rfl (ly_mp21 L)) ?_
          refine xk_load rfl (p := 58) rfl rfl ?_
          refine xk_dup rfl (p := 59) rfl (show ¬ (2 : Nat) = 1 by decide) ?_
          refine xk_getf rfl (p := 62) rfl (xob (ly_m L) (by decide)) (v := (0, m 292 19)) (xsl0 rfl ((xupd_ne (by omega)).trans (hM 292 19 (by decide)))) ?_
          have iS_ := iS hI
          refine xk_dupx1 rfl (p := 63) rfl (show ¬ ((0 : Nat) = 1 ∨ (2 : Nat) = 1) by decide) ?_
          refine xk_push rfl (p := 64) rfl ?_
          refine xk_bin rfl (p := 65) rfl (z := (m 292 19 + 1)) (congrArg some (xadd_r (by omega) (by omega))) ?_
          refine xk_putf rfl (p := 68) rfl (xob (ly_m L) (by decide)) rfl (by decide) (by decide) (fun h => absurd h (by decide)) (by omega) ?_
          refine xk_load rfl (p := 69) rfl rfl ?_
          refine xk_asti rfl (p := 70) rfl (show 0 ≤ m 292 19 by omega) (by decide) rfl (xsk (ly_ms21 L)) (xsn (ly_ms21 L) (show (m 292 19).toNat < 5 by omega)) (by omega) ?_
          refine xk_load rfl (p := 71) rfl rfl ?_
          refine xk_getf rfl (p := 74) rfl (xob (ly_m L) (by decide)) (v := (0, (m 292 19 + 1))) (xsl0 rfl ((xupd_ne (by omega)).trans (xupd_eq))) ?_
          refine xk_ret rfl (rfl) ?_
          exact yRet ((if_neg c2_1).trans ((if_pos c17_2).trans ((if_pos c26_3).trans ((if_neg c37_4))))) (((hM.up).up).up) ((((Md.rf).up (by decide)).up (by decide)).up (by decide))
        · replace c37_4 : m 292 19 = 5 := Decidable.not_not.mp c37_4
          refine xk_push rfl (p := 42) rfl ?_
          refine xk_ret rfl (rfl) ?_
          exact yRet ((if_neg c2_1).trans ((if_pos c17_2).trans ((if_pos c26_3).trans ((if_pos c37_4))))) (hM) (Md.rf)
      · replace c26_3 : ¬ (0 ≤ y ∧ y ≤ 999) := xb_e1 c26_3
        refine xk_push rfl (p := 31) rfl ?_
        refine xk_ret rfl (rfl) ?_
        exact yRet ((if_neg c2_1).trans ((if_pos c17_2).trans ((if_neg c26_3)))) (hM) (Md.rf)
    · replace c17_2 : ¬ (0 ≤ x ∧ x < m 292 0) := xb_e1 c17_2
      refine xk_push rfl (p := 21) rfl ?_
      refine xk_ret rfl (rfl) ?_
      exact yRet ((if_neg c2_1).trans ((if_neg c17_2))) (hM) (Md.rf)
  · replace c2_1 : x = (-1) := Decidable.not_not.mp c2_1
    refine xk_load rfl (p := 6) rfl rfl ?_
    refine xk_push rfl (p := 7) rfl ?_
    refine xk_putf rfl (p := 10) rfl (xob (ly_m L) (by decide)) rfl (by decide) (by decide) (fun h => absurd h (by decide)) (by omega) ?_
    refine xk_push rfl (p := 11) rfl ?_
    refine xk_ret rfl (rfl) ?_
    exact yRet ((if_pos c2_1)) (hM.up) ((Md.rf).up (by decide))

def y_plan (m : xD) (x : Int) (y : Int) : Option xV × xD :=
  if x = (-1) then ((some (0, 0), xupd m 292 22 0)) else (if 0 ≤ x ∧ x ≤ 3 then (if x = 3 then (if 0 ≤ y ∧ y < m 292 0 then (if m 292 22 = 10 then ((some (0, (-4)), m)) else (if x = 3 then ((some (0, (m 292 22 + 1)), xupd (xupd (xupd m 308 ((m 292 22).toNat) x) 292 22 (m 292 22 + 1)) 309 ((m 292 22).toNat) y)) else ((some (0, (m 292 22 + 1)), xupd (xupd (xupd m 308 ((m 292 22).toNat) x) 292 22 (m 292 22 + 1)) 309 ((m 292 22).toNat) 0)))) else ((some (0, (-1)), m))) else (if m 292 22 = 10 then ((some (0, (-4)), m)) else (if x = 3 then ((some (0, (m 292 22 + 1)), xupd (xupd (xupd m 308 ((m 292 22).toNat) x) 292 22 (m 292 22 + 1)) 309 ((m 292 22).toNat) y)) else ((some (0, (m 292 22 + 1)), xupd (xupd (xupd m 308 ((m 292 22).toNat) x) 292 22 (m 292 22 + 1)) 309 ((m 292 22).toNat) 0))))) else ((some (0, (-1)), m)))
theorem n_plan {d : Nat} {g : xG} {t m : xD} {x y : Int} (L : xLay g) (hM : Mo t m) (hI : Inv m)  : xCall (d + 2) 182 [(2, ((292 : Nat) : Int)), (0, x), (0, y)] g t (yQ g t (y_plan m  x  y )) := by
  show xOk (d + 2) 182 0 [(2, ((292 : Nat) : Int)), (0, x), (0, y)] [] g t _
  have iNn_ := iNn hI
  refine xk_load rfl (p := 1) rfl rfl ?_
  refine xk_push rfl (p := 2) rfl ?_
  refine xk_icmp rfl (p := 5) rfl (fun c2_1 => ?_) (fun c2_1 => ?_)
  · replace c2_1 : ¬ (x = (-1)) := c2_1
    refine xk_load rfl (p := 13) rfl rfl ?_
    refine xk_push rfl (p := 14) rfl ?_
    refine xk_push rfl (p := 15) rfl ?_
    refine xk_callp rfl (p := 18) rfl (by decide) rfl (Nat.le_of_ble_eq_true rfl) (Nat.le_of_ble_eq_true rfl) (rfl) (as := [(0, x), (0, 0), (0, 3)]) (r := []) rfl (v := (0, (if 0 ≤ x ∧ x ≤ 3 then (1 : Int) else 0))) (n_within) ?_
    refine xk_if rfl (p := 21) rfl (fun c18_2 => ?_) (fun c18_2 => ?_)
    · replace c18_2 : ¬ (0 ≤ x ∧ x ≤ 3) := xb_e0 c18_2
      refine xk_push rfl (p := 35) rfl ?_
      refine xk_ret rfl (rfl) ?_
      exact yRet ((if_neg c2_1).trans ((if_neg c18_2))) (hM) (Md.rf)
    · replace c18_2 : 0 ≤ x ∧ x ≤ 3 := xb_n0 c18_2
      refine xk_load rfl (p := 22) rfl rfl ?_
      refine xk_push rfl (p := 23) rfl ?_
      refine xk_icmp rfl (p := 26) rfl (fun c23_3 => ?_) (fun c23_3 => ?_)
      · replace c23_3 : ¬ (x = 3) := c23_3
        refine xk_load rfl (p := 37) rfl rfl ?_
        refine xk_getf rfl (p := 40) rfl (xob (ly_m L) (by decide)) (v := (0, m 292 22)) (xsl0 rfl (hM 292 22 (by decide))) ?_
        have iL_ := iL hI
        refine xk_push rfl (p := 42) rfl ?_
        refine xk_icmp rfl (p := 45) rfl (fun c42_4 => ?_) (fun c42_4 => ?_)
        · replace c42_4 : ¬ (m 292 22 = 10) := c42_4
          refine xk_load rfl (p := 49) rfl rfl ?_
          refine xk_getf rfl (p := 52) rfl (xob (ly_m L) (by decide)) (v := (2, ((308 : Nat) : Int))) (xsl2 rfl (ly_mp23 L)) ?_
          refine xk_load rfl (p := 53) rfl rfl ?_
          refine xk_getf rfl (p := 56) rfl (xob (ly_m L) (by decide)) (v := (0, m 292 22)) (xsl0 rfl (hM 292 22 (by decide))) ?_
          have iL_ := iL hI
          refine xk_load rfl (p := 57) rfl rfl ?_
          refine xk_asti rfl (p := 58) rfl (show 0 ≤ m 292 22 by omega) (by decide) rfl (xsk (ly_ms23 L)) (xsn (ly_ms23 L) (show (m 292 22).toNat < 10 by omega)) (by omega) ?_
          refine xk_load rfl (p := 59) rfl rfl ?_
          refine xk_getf rfl (p := 62) rfl (xob (ly_m L) (by decide)) (v := (2, ((309 : Nat) : Int))) (xsl2 rfl (ly_mp24 L)) ?_
          refine xk_load rfl (p := 63) rfl rfl ?_
          refine xk_dup rfl (p := 64) rfl (show ¬ (2 : Nat) = 1 by decide) ?_
          refine xk_getf rfl (p := 67) rfl (xob (ly_m L) (by decide)) (v := (0, m 292 22)) (xsl0 rfl ((xupd_ne (by omega)).trans (hM 292 22 (by decide)))) ?_
          have iL_ := iL hI
          refine xk_dupx1 rfl (p := 68) rfl (show ¬ ((0 : Nat) = 1 ∨ (2 : Nat) = 1) by decide) ?_
          refine xk_push rfl (p := 69) rfl ?_
          refine xk_bin rfl (p := 70) rfl (z := (m 292 22 + 1)) (congrArg some (xadd_r (by omega) (by omega))) ?_
          refine xk_putf rfl (p := 73) rfl (xob (ly_m L) (by decide)) rfl (by decide) (by decide) (fun h => absurd h (by decide)) (by omega) ?_
          refine xk_load rfl (p := 74) rfl rfl ?_
          refine xk_push rfl (p := 75) rfl ?_
          refine xk_icmp rfl (p := 78) rfl (fun c75_5 => ?_) (fun c75_5 => ?_)
          · replace c75_5 : ¬ (x = 3) := c75_5
            refine xk_push rfl (p := 83) rfl ?_
            refine xk_asti rfl (p := 84) rfl (show 0 ≤ m 292 22 by omega) (by decide) rfl (xsk (ly_ms24 L)) (xsn (ly_ms24 L) (show (m 292 22).toNat < 10 by omega)) (by omega) ?_
            refine xk_load rfl (p := 85) rfl rfl ?_
            refine xk_getf rfl (p := 88) rfl (xob (ly_m L) (by decide)) (v := (0, (m 292 22 + 1))) (xsl0 rfl ((xupd_ne (by omega)).trans (xupd_eq))) ?_
            refine xk_ret rfl (rfl) ?_
            exact yRet ((if_neg c2_1).trans ((if_pos c18_2).trans ((if_neg c23_3).trans ((if_neg c42_4).trans ((if_neg c75_5)))))) (((hM.up).up).up) ((((Md.rf).up (by decide)).up (by decide)).up (by decide))
          · replace c75_5 : x = 3 := Decidable.not_not.mp c75_5
            refine xk_load rfl (p := 79) rfl rfl ?_
            refine xk_goto rfl ?_
            refine xk_asti rfl (p := 84) rfl (show 0 ≤ m 292 22 by omega) (by decide) rfl (xsk (ly_ms24 L)) (xsn (ly_ms24 L) (show (m 292 22).toNat < 10 by omega)) (by omega) ?_
            refine xk_load rfl (p := 85) rfl rfl ?_
            refine xk_getf rfl (p := 88) rfl (xob (ly_m L) (by decide)) (v := (0, (m 292 22 + 1))) (xsl0 rfl ((xupd_ne (by omega)).trans (xupd_eq))) ?_
            refine xk_ret rfl (rfl) ?_
            exact yRet ((if_neg c2_1).trans ((if_pos c18_2).trans ((if_neg c23_3).trans ((if_neg c42_4).trans ((if_pos c75_5)))))) (((hM.up).up).up) ((((Md.rf).up (by decide)).up (by decide)).up (by decide))
        · replace c42_4 : m 292 22 = 10 := Decidable.not_not.mp c42_4
          refine xk_push rfl (p := 47) rfl ?_
          refine xk_ret rfl (rfl) ?_
          exact yRet ((if_neg c2_1).trans ((if_pos c18_2).trans ((if_neg c23_3).trans ((if_pos c42_4))))) (hM) (Md.rf)
      · replace c23_3 : x = 3 := Decidable.not_not.mp c23_3
        refine xk_load rfl (p := 27) rfl rfl ?_
        refine xk_load rfl (p := 28) rfl rfl ?_
        refine xk_callp rfl (p := 31) rfl (by decide) rfl (Nat.le_of_ble_eq_true rfl) (Nat.le_of_ble_eq_true rfl) (xrv (ly_m L) (by decide)) (as := [(2, ((292 : Nat) : Int)), (0, y)]) (r := []) rfl (v := (0, (if 0 ≤ y ∧ y < m 292 0 then (1 : Int) else 0))) (n_isName L hM hI) ?_
        have iNn_ := iNn hI
        refine xk_if rfl (p := 34) rfl (fun c31_6 => ?_) (fun c31_6 => ?_)
        · replace c31_6 : 0 ≤ y ∧ y < m 292 0 := xb_n0 c31_6
          refine xk_load rfl (p := 37) rfl rfl ?_
          refine xk_getf rfl (p := 40) rfl (xob (ly_m L) (by decide)) (v := (0, m 292 22)) (xsl0 rfl (hM 292 22 (by decide))) ?_
          have iL_ := iL hI
          refine xk_push rfl (p := 42) rfl ?_
          refine xk_icmp rfl (p := 45) rfl (fun c42_7 => ?_) (fun c42_7 => ?_)
          · replace c42_7 : ¬ (m 292 22 = 10) := c42_7
            refine xk_load rfl (p := 49) rfl rfl ?_
            refine xk_getf rfl (p := 52) rfl (xob (ly_m L) (by decide)) (v := (2, ((308 : Nat) : Int))) (xsl2 rfl (ly_mp23 L)) ?_
            refine xk_load rfl (p := 53) rfl rfl ?_
            refine xk_getf rfl (p := 56) rfl (xob (ly_m L) (by decide)) (v := (0, m 292 22)) (xsl0 rfl (hM 292 22 (by decide))) ?_
            have iL_ := iL hI
            refine xk_load rfl (p := 57) rfl rfl ?_
            refine xk_asti rfl (p := 58) rfl (show 0 ≤ m 292 22 by omega) (by decide) rfl (xsk (ly_ms23 L)) (xsn (ly_ms23 L) (show (m 292 22).toNat < 10 by omega)) (by omega) ?_
            refine xk_load rfl (p := 59) rfl rfl ?_
            refine xk_getf rfl (p := 62) rfl (xob (ly_m L) (by decide)) (v := (2, ((309 : Nat) : Int))) (xsl2 rfl (ly_mp24 L)) ?_
            refine xk_load rfl (p := 63) rfl rfl ?_
            refine xk_dup rfl (p := 64) rfl (show ¬ (2 : Nat) = 1 by decide) ?_
            refine xk_getf rfl (p := 67) rfl (xob (ly_m L) (by decide)) (v := (0, m 292 22)) (xsl0 rfl ((xupd_ne (by omega)).trans (hM 292 22 (by decide)))) ?_
            have iL_ := iL hI
            refine xk_dupx1 rfl (p := 68) rfl (show ¬ ((0 : Nat) = 1 ∨ (2 : Nat) = 1) by decide) ?_
            refine xk_push rfl (p := 69) rfl ?_
            refine xk_bin rfl (p := 70) rfl (z := (m 292 22 + 1)) (congrArg some (xadd_r (by omega) (by omega))) ?_
            refine xk_putf rfl (p := 73) rfl (xob (ly_m L) (by decide)) rfl (by decide) (by decide) (fun h => absurd h (by decide)) (by omega) ?_
            refine xk_load rfl (p := 74) rfl rfl ?_
            refine xk_push rfl (p := 75) rfl ?_
            refine xk_icmp rfl (p := 78) rfl (fun c75_8 => ?_) (fun c75_8 => ?_)
            · replace c75_8 : ¬ (x = 3) := c75_8
              refine xk_push rfl (p := 83) rfl ?_
              refine xk_asti rfl (p := 84) rfl (show 0 ≤ m 292 22 by omega) (by decide) rfl (xsk (ly_ms24 L)) (xsn (ly_ms24 L) (show (m 292 22).toNat < 10 by omega)) (by omega) ?_
              refine xk_load rfl (p := 85) rfl rfl ?_
              refine xk_getf rfl (p := 88) rfl (xob (ly_m L) (by decide)) (v := (0, (m 292 22 + 1))) (xsl0 rfl ((xupd_ne (by omega)).trans (xupd_eq))) ?_
              refine xk_ret rfl (rfl) ?_
              exact yRet ((if_neg c2_1).trans ((if_pos c18_2).trans ((if_pos c23_3).trans ((if_pos c31_6).trans ((if_neg c42_7).trans ((if_neg c75_8))))))) (((hM.up).up).up) ((((Md.rf).up (by decide)).up (by decide)).up (by decide))
            · replace c75_8 : x = 3 := Decidable.not_not.mp c75_8
              refine xk_load rfl (p := 79) rfl rfl ?_
              refine xk_goto rfl ?_
              refine xk_asti rfl (p := 84) rfl (show 0 ≤ m 292 22 by omega) (by decide) rfl (xsk (ly_ms24 L)) (xsn (ly_ms24 L) (show (m 292 22).toNat < 10 by omega)) (by omega) ?_
              refine xk_load rfl (p := 85) rfl rfl ?_
              refine xk_getf rfl (p := 88) rfl (xob (ly_m L) (by decide)) (v := (0, (m 292 22 + 1))) (xsl0 rfl ((xupd_ne (by omega)).trans (xupd_eq))) ?_
              refine xk_ret rfl (rfl) ?_
              exact yRet ((if_neg c2_1).trans ((if_pos c18_2).trans ((if_pos c23_3).trans ((if_pos c31_6).trans ((if_neg c42_7).trans ((if_pos c75_8))))))) (((hM.up).up).up) ((((Md.rf).up (by decide)).up (by decide)).up (by decide))
          · replace c42_7 : m 292 22 = 10 := Decidable.not_not.mp c42_7
            refine xk_push rfl (p := 47) rfl ?_
            refine xk_ret rfl (rfl) ?_
            exact yRet ((if_neg c2_1).trans ((if_pos c18_2).trans ((if_pos c23_3).trans ((if_pos c31_6).trans ((if_pos c42_7)))))) (hM) (Md.rf)
        · replace c31_6 : ¬ (0 ≤ y ∧ y < m 292 0) := xb_e1 c31_6
          refine xk_push rfl (p := 35) rfl ?_
          refine xk_ret rfl (rfl) ?_
          exact yRet ((if_neg c2_1).trans ((if_pos c18_2).trans ((if_pos c23_3).trans ((if_neg c31_6))))) (hM) (Md.rf)
  · replace c2_1 : x = (-1) := Decidable.not_not.mp c2_1
    refine xk_load rfl (p := 6) rfl rfl ?_
    refine xk_push rfl (p := 7) rfl ?_
    refine xk_putf rfl (p := 10) rfl (xob (ly_m L) (by decide)) rfl (by decide) (by decide) (fun h => absurd h (by decide)) (by omega) ?_
    refine xk_push rfl (p := 11) rfl ?_
    refine xk_ret rfl (rfl) ?_
    exact yRet ((if_pos c2_1)) (hM.up) ((Md.rf).up (by decide))

def y_book (m : xD) (x : Int) (y : Int) : Option xV × xD :=
  if x = (-1) then ((some (0, 0), xupd m 292 25 0)) else (if 0 ≤ x ∧ x < m 292 0 then (if 0 ≤ y ∧ y ≤ 999 then (if m 292 25 = 8 then ((some (0, (-4)), m)) else ((some (0, (m 292 25 + 1)), xupd (xupd (xupd m 310 ((m 292 25).toNat) x) 292 25 (m 292 25 + 1)) 311 ((m 292 25).toNat) y))) else ((some (0, (-2)), m))) else ((some (0, (-1)), m)))
theorem n_book {d : Nat} {g : xG} {t m : xD} {x y : Int} (L : xLay g) (hM : Mo t m) (hI : Inv m)  : xCall (d + 2) 184 [(2, ((292 : Nat) : Int)), (0, x), (0, y)] g t (yQ g t (y_book m  x  y )) := by
  show xOk (d + 2) 184 0 [(2, ((292 : Nat) : Int)), (0, x), (0, y)] [] g t _
  have iNn_ := iNn hI
  refine xk_load rfl (p := 1) rfl rfl ?_
  refine xk_push rfl (p := 2) rfl ?_
  refine xk_icmp rfl (p := 5) rfl (fun c2_1 => ?_) (fun c2_1 => ?_)
  · replace c2_1 : ¬ (x = (-1)) := c2_1
    refine xk_load rfl (p := 13) rfl rfl ?_
    refine xk_load rfl (p := 14) rfl rfl ?_
    refine xk_callp rfl (p := 17) rfl (by decide) rfl (Nat.le_of_ble_eq_true rfl) (Nat.le_of_ble_eq_true rfl) (xrv (ly_m L) (by decide)) (as := [(2, ((292 : Nat) : Int)), (0, x)]) (r := []) rfl (v := (0, (if 0 ≤ x ∧ x < m 292 0 then (1 : Int) else 0))) (n_isName L hM hI) ?_
    have iNn_ := iNn hI
    refine xk_if rfl (p := 20) rfl (fun c17_2 => ?_) (fun c17_2 => ?_)
    · replace c17_2 : 0 ≤ x ∧ x < m 292 0 := xb_n0 c17_2
      refine xk_load rfl (p := 23) rfl rfl ?_
      refine xk_callp rfl (p := 26) rfl (by decide) rfl (Nat.le_of_ble_eq_true rfl) (Nat.le_of_ble_eq_true rfl) (rfl) (as := [(0, y)]) (r := []) rfl (v := (0, (if 0 ≤ y ∧ y ≤ 999 then (1 : Int) else 0))) (n_isValue) ?_
      refine xk_if rfl (p := 29) rfl (fun c26_3 => ?_) (fun c26_3 => ?_)
      · replace c26_3 : 0 ≤ y ∧ y ≤ 999 := xb_n0 c26_3
        refine xk_load rfl (p := 33) rfl rfl ?_
        refine xk_getf rfl (p := 36) rfl (xob (ly_m L) (by decide)) (v := (0, m 292 25)) (xsl0 rfl (hM 292 25 (by decide))) ?_
        have iB_ := iB hI
        refine xk_push rfl (p := 38) rfl ?_
        refine xk_icmp rfl (p := 41) rfl (fun c38_4 => ?_) (fun c38_4 => ?_)
        · replace c38_4 : ¬ (m 292 25 = 8) := c38_4
          refine xk_load rfl (p := 45) rfl rfl ?_
          refine xk_getf rfl (p := 48) rfl (xob (ly_m L) (by decide)) (v := (2, ((310 : Nat) : Int))) (xsl2 rfl (ly_mp26 L)) ?_
          refine xk_load rfl (p := 49) rfl rfl ?_
          refine xk_getf rfl (p := 52) rfl (xob (ly_m L) (by decide)) (v := (0, m 292 25)) (xsl0 rfl (hM 292 25 (by decide))) ?_
          have iB_ := iB hI
          refine xk_load rfl (p := 53) rfl rfl ?_
          refine xk_asti rfl (p := 54) rfl (show 0 ≤ m 292 25 by omega) (by decide) rfl (xsk (ly_ms26 L)) (xsn (ly_ms26 L) (show (m 292 25).toNat < 8 by omega)) (by omega) ?_
          refine xk_load rfl (p := 55) rfl rfl ?_
          refine xk_getf rfl (p := 58) rfl (xob (ly_m L) (by decide)) (v := (2, ((311 : Nat) : Int))) (xsl2 rfl (ly_mp27 L)) ?_
          refine xk_load rfl (p := 59) rfl rfl ?_
          refine xk_dup rfl (p := 60) rfl (show ¬ (2 : Nat) = 1 by decide) ?_
          refine xk_getf rfl (p := 63) rfl (xob (ly_m L) (by decide)) (v := (0, m 292 25)) (xsl0 rfl ((xupd_ne (by omega)).trans (hM 292 25 (by decide)))) ?_
          have iB_ := iB hI
          refine xk_dupx1 rfl (p := 64) rfl (show ¬ ((0 : Nat) = 1 ∨ (2 : Nat) = 1) by decide) ?_
          refine xk_push rfl (p := 65) rfl ?_
          refine xk_bin rfl (p := 66) rfl (z := (m 292 25 + 1)) (congrArg some (xadd_r (by omega) (by omega))) ?_
          refine xk_putf rfl (p := 69) rfl (xob (ly_m L) (by decide)) rfl (by decide) (by decide) (fun h => absurd h (by decide)) (by omega) ?_
          refine xk_load rfl (p := 70) rfl rfl ?_
          refine xk_asti rfl (p := 71) rfl (show 0 ≤ m 292 25 by omega) (by decide) rfl (xsk (ly_ms27 L)) (xsn (ly_ms27 L) (show (m 292 25).toNat < 8 by omega)) (by omega) ?_
          refine xk_load rfl (p := 72) rfl rfl ?_
          refine xk_getf rfl (p := 75) rfl (xob (ly_m L) (by decide)) (v := (0, (m 292 25 + 1))) (xsl0 rfl ((xupd_ne (by omega)).trans (xupd_eq))) ?_
          refine xk_ret rfl (rfl) ?_
          exact yRet ((if_neg c2_1).trans ((if_pos c17_2).trans ((if_pos c26_3).trans ((if_neg c38_4))))) (((hM.up).up).up) ((((Md.rf).up (by decide)).up (by decide)).up (by decide))
        · replace c38_4 : m 292 25 = 8 := Decidable.not_not.mp c38_4
          refine xk_push rfl (p := 43) rfl ?_
          refine xk_ret rfl (rfl) ?_
          exact yRet ((if_neg c2_1).trans ((if_pos c17_2).trans ((if_pos c26_3).trans ((if_pos c38_4))))) (hM) (Md.rf)
      · replace c26_3 : ¬ (0 ≤ y ∧ y ≤ 999) := xb_e1 c26_3
        refine xk_push rfl (p := 31) rfl ?_
        refine xk_ret rfl (rfl) ?_
        exact yRet ((if_neg c2_1).trans ((if_pos c17_2).trans ((if_neg c26_3)))) (hM) (Md.rf)
    · replace c17_2 : ¬ (0 ≤ x ∧ x < m 292 0) := xb_e1 c17_2
      refine xk_push rfl (p := 21) rfl ?_
      refine xk_ret rfl (rfl) ?_
      exact yRet ((if_neg c2_1).trans ((if_neg c17_2))) (hM) (Md.rf)
  · replace c2_1 : x = (-1) := Decidable.not_not.mp c2_1
    refine xk_load rfl (p := 6) rfl rfl ?_
    refine xk_push rfl (p := 7) rfl ?_
    refine xk_putf rfl (p := 10) rfl (xob (ly_m L) (by decide)) rfl (by decide) (by decide) (fun h => absurd h (by decide)) (by omega) ?_
    refine xk_push rfl (p := 11) rfl ?_
    refine xk_ret rfl (rfl) ?_
    exact yRet ((if_pos c2_1)) (hM.up) ((Md.rf).up (by decide))

theorem n_deals {d : Nat} {g : xG} {t m : xD} (L : xLay g) (hM : Mo t m) (hI : Inv m) : xCall (d) 161 [(2, ((292 : Nat) : Int))] g t (xQ g t (some (0, ((xcnt (fun d => decide (0 < m 300 d)) 4 : Nat) : Int)))) := by
  show xOk (d) 161 0 [(2, ((292 : Nat) : Int)), (3, 0), (3, 0)] [] g t _
  refine xk_push rfl (p := 1) rfl ?_
  refine xk_store rfl (p := 2) rfl (by decide) (Nat.le_of_ble_eq_true rfl) (ls' := [(2, ((292 : Nat) : Int)), (0, 0), (3, 0)]) rfl ?_
  refine xk_push rfl (p := 3) rfl ?_
  refine xk_store rfl (p := 4) rfl (by decide) (Nat.le_of_ble_eq_true rfl) (ls' := [(2, ((292 : Nat) : Int)), (0, 0), (0, 0)]) rfl ?_
  have lp1 : ∀ k : Nat, k ≤ 4 → ∀ (z : Nat), (z = xcnt (fun d => decide (0 < m 300 d)) k) → (z ≤ k) → xOk (d) 161 4 [(2, ((292 : Nat) : Int)), (0, ((z : Nat) : Int)), (0, ((k : Nat) : Int))] [] g t (xQ g t (some (0, ((xcnt (fun d => decide (0 < m 300 d)) 4 : Nat) : Int)))) := by
    refine xk_up 4 (fun k hkk ih1 z hi1 hi2 => ?_)
    refine xk_load rfl (p := 5) rfl rfl ?_
    refine xk_push rfl (p := 6) rfl ?_
    refine xk_icmp rfl (p := 9) rfl (fun c6_2 => ?_) (fun c6_2 => ?_)
    · replace c6_2 : 4 ≤ ((k : Nat) : Int) := c6_2
      refine xk_load rfl (p := 28) rfl rfl ?_
      refine xk_rete rfl (rfl) ?_
      rw [hi1, show k = 4 by omega]
    · replace c6_2 : ¬ (4 ≤ ((k : Nat) : Int)) := c6_2
      refine xk_load rfl (p := 10) rfl rfl ?_
      refine xk_getf rfl (p := 13) rfl (xob (ly_m L) (by decide)) (v := (2, ((300 : Nat) : Int))) (xsl2 rfl (ly_mp9 L)) ?_
      refine xk_load rfl (p := 14) rfl rfl ?_
      refine xk_ald rfl (p := 15) rfl (v := (0, m 300 k)) ((xal0 (ly_ms9 L) (show k < 4 by omega)).trans (congrArg (fun z => some (0, z)) (hM 300 k (by decide)))) ?_
      have iD_ := iD hI (show k < 4 by omega)
      refine xk_if rfl (p := 18) rfl (fun c15_3 => ?_) (fun c15_3 => ?_)
      · replace c15_3 : m 300 k ≤ 0 := c15_3
        refine xk_inc1 rfl (p := 24) rfl (n := k) rfl (by omega) (ls' := [(2, ((292 : Nat) : Int)), (0, ((z : Nat) : Int)), (0, ((k + 1 : Nat) : Int))]) rfl ?_
        refine xk_goto rfl ?_
        exact ih1 (by omega) z (by first | exact xcnt_in hi1 (decide_eq_true (by omega)) | exact xcnt_out hi1 (fun h => by have h := of_decide_eq_true h; omega)) (by omega)
      · replace c15_3 : ¬ (m 300 k ≤ 0) := c15_3
        refine xk_inc1 rfl (p := 21) rfl (n := z) rfl (by omega) (ls' := [(2, ((292 : Nat) : Int)), (0, ((z + 1 : Nat) : Int)), (0, ((k : Nat) : Int))]) rfl ?_
        refine xk_inc1 rfl (p := 24) rfl (n := k) rfl (by omega) (ls' := [(2, ((292 : Nat) : Int)), (0, ((z + 1 : Nat) : Int)), (0, ((k + 1 : Nat) : Int))]) rfl ?_
        refine xk_goto rfl ?_
        exact ih1 (by omega) (z + 1) (by first | exact xcnt_in hi1 (decide_eq_true (by omega)) | exact xcnt_out hi1 (fun h => by have h := of_decide_eq_true h; omega)) (by omega)
  exact lp1 0 (by omega) 0 (by rfl) (by omega)

theorem n_allDeals {d : Nat} {g : xG} {t m : xD} (L : xLay g) (hM : Mo t m) (hI : Inv m) : xCall (d) 165 [(2, ((292 : Nat) : Int))] g t (xQ g t (some (0, ((xbs (fun d => decide (0 < m 300 d)) 4 : Nat) : Int)))) := by
  show xOk (d) 165 0 [(2, ((292 : Nat) : Int)), (3, 0), (3, 0)] [] g t _
  refine xk_push rfl (p := 1) rfl ?_
  refine xk_store rfl (p := 2) rfl (by decide) (Nat.le_of_ble_eq_true rfl) (ls' := [(2, ((292 : Nat) : Int)), (0, 0), (3, 0)]) rfl ?_
  refine xk_push rfl (p := 3) rfl ?_
  refine xk_store rfl (p := 4) rfl (by decide) (Nat.le_of_ble_eq_true rfl) (ls' := [(2, ((292 : Nat) : Int)), (0, 0), (0, 0)]) rfl ?_
  have lp1 : ∀ k : Nat, k ≤ 4 → ∀ (z : Nat), (z = xbs (fun d => decide (0 < m 300 d)) k) → xOk (d) 165 4 [(2, ((292 : Nat) : Int)), (0, ((z : Nat) : Int)), (0, ((k : Nat) : Int))] [] g t (xQ g t (some (0, ((xbs (fun d => decide (0 < m 300 d)) 4 : Nat) : Int)))) := by
    refine xk_up 4 (fun k hkk ih1 z hi1 => ?_)
    have hz : z < 4096 := hi1 ▸ xbs_lt (by omega)
    refine xk_load rfl (p := 5) rfl rfl ?_
    refine xk_push rfl (p := 6) rfl ?_
    refine xk_icmp rfl (p := 9) rfl (fun c6_2 => ?_) (fun c6_2 => ?_)
    · replace c6_2 : 4 ≤ ((k : Nat) : Int) := c6_2
      refine xk_load rfl (p := 31) rfl rfl ?_
      refine xk_rete rfl (rfl) ?_
      rw [hi1, show k = 4 by omega]
    · replace c6_2 : ¬ (4 ≤ ((k : Nat) : Int)) := c6_2
      refine xk_load rfl (p := 10) rfl rfl ?_
      refine xk_getf rfl (p := 13) rfl (xob (ly_m L) (by decide)) (v := (2, ((300 : Nat) : Int))) (xsl2 rfl (ly_mp9 L)) ?_
      refine xk_load rfl (p := 14) rfl rfl ?_
      refine xk_ald rfl (p := 15) rfl (v := (0, m 300 k)) ((xal0 (ly_ms9 L) (show k < 4 by omega)).trans (congrArg (fun z => some (0, z)) (hM 300 k (by decide)))) ?_
      have iD_ := iD hI (show k < 4 by omega)
      refine xk_if rfl (p := 18) rfl (fun c15_3 => ?_) (fun c15_3 => ?_)
      · replace c15_3 : m 300 k ≤ 0 := c15_3
        refine xk_inc1 rfl (p := 27) rfl (n := k) rfl (by omega) (ls' := [(2, ((292 : Nat) : Int)), (0, ((z : Nat) : Int)), (0, ((k + 1 : Nat) : Int))]) rfl ?_
        refine xk_goto rfl ?_
        exact ih1 (by omega) z (by first | exact xbs_in hi1 (decide_eq_true (by omega)) | exact xbs_out hi1 (fun h => by have h := of_decide_eq_true h; omega))
      · replace c15_3 : ¬ (m 300 k ≤ 0) := c15_3
        refine xk_load rfl (p := 19) rfl rfl ?_
        refine xk_push rfl (p := 20) rfl ?_
        refine xk_load rfl (p := 21) rfl rfl ?_
        refine xk_bin rfl (p := 22) rfl (z := ((2 ^ k : Nat) : Int)) (congrArg some (xshl_n (by omega))) ?_
        refine xk_bin rfl (p := 23) rfl (z := ((z ||| (2 ^ k) : Nat) : Int)) (congrArg some (xor_s (by omega) (p12 (by omega)))) ?_
        refine xk_store rfl (p := 24) rfl (by decide) (Nat.le_of_ble_eq_true rfl) (ls' := [(2, ((292 : Nat) : Int)), (0, ((z ||| (2 ^ k) : Nat) : Int)), (0, ((k : Nat) : Int))]) rfl ?_
        refine xk_inc1 rfl (p := 27) rfl (n := k) rfl (by omega) (ls' := [(2, ((292 : Nat) : Int)), (0, ((z ||| (2 ^ k) : Nat) : Int)), (0, ((k + 1 : Nat) : Int))]) rfl ?_
        refine xk_goto rfl ?_
        exact ih1 (by omega) (z ||| (2 ^ k)) (by first | exact xbs_in hi1 (decide_eq_true (by omega)) | exact xbs_out hi1 (fun h => by have h := of_decide_eq_true h; omega))
  exact lp1 0 (by omega) 0 (by rfl)

theorem n_wroteOnes {d : Nat} {g : xG} {t m : xD} (L : xLay g) (hM : Mo t m) (hI : Inv m) : xCall (d) 166 [(2, ((292 : Nat) : Int))] g t (xQ g t (some (0, ((xcnt (fun i => decide (¬ m 304 i = 0)) (nN m) : Nat) : Int)))) := by
  show xOk (d) 166 0 [(2, ((292 : Nat) : Int)), (3, 0), (3, 0)] [] g t _
  have iNn_ := iNn hI
  refine xk_push rfl (p := 1) rfl ?_
  refine xk_store rfl (p := 2) rfl (by decide) (Nat.le_of_ble_eq_true rfl) (ls' := [(2, ((292 : Nat) : Int)), (0, 0), (3, 0)]) rfl ?_
  refine xk_push rfl (p := 3) rfl ?_
  refine xk_store rfl (p := 4) rfl (by decide) (Nat.le_of_ble_eq_true rfl) (ls' := [(2, ((292 : Nat) : Int)), (0, 0), (0, 0)]) rfl ?_
  have lp1 : ∀ k : Nat, k ≤ nN m → ∀ (z : Nat), (z = xcnt (fun i => decide (¬ m 304 i = 0)) k) → (z ≤ k) → xOk (d) 166 4 [(2, ((292 : Nat) : Int)), (0, ((z : Nat) : Int)), (0, ((k : Nat) : Int))] [] g t (xQ g t (some (0, ((xcnt (fun i => decide (¬ m 304 i = 0)) (nN m) : Nat) : Int)))) := by
    refine xk_up (nN m) (fun k hkk ih1 z hi1 hi2 => ?_)
    refine xk_load rfl (p := 5) rfl rfl ?_
    refine xk_load rfl (p := 6) rfl rfl ?_
    refine xk_getf rfl (p := 9) rfl (xob (ly_m L) (by decide)) (v := (0, ((nN m : Nat) : Int))) (xsl0 rfl ((hM 292 0 (by decide)).trans (iNn hI).1)) ?_
    have iNn_ := iNn hI
    refine xk_icmp rfl (p := 12) rfl (fun c9_2 => ?_) (fun c9_2 => ?_)
    · replace c9_2 : ((nN m : Nat) : Int) ≤ ((k : Nat) : Int) := c9_2
      refine xk_load rfl (p := 31) rfl rfl ?_
      refine xk_rete rfl (rfl) ?_
      rw [hi1, show k = nN m by omega]
    · replace c9_2 : ¬ (((nN m : Nat) : Int) ≤ ((k : Nat) : Int)) := c9_2
      refine xk_load rfl (p := 13) rfl rfl ?_
      refine xk_getf rfl (p := 16) rfl (xob (ly_m L) (by decide)) (v := (2, ((304 : Nat) : Int))) (xsl2 rfl (ly_mp16 L)) ?_
      refine xk_load rfl (p := 17) rfl rfl ?_
      refine xk_ald rfl (p := 18) rfl (v := (0, m 304 k)) ((xal0 (ly_ms16 L) (show k < 12 by omega)).trans (congrArg (fun z => some (0, z)) (hM 304 k (by decide)))) ?_
      refine xk_if rfl (p := 21) rfl (fun c18_3 => ?_) (fun c18_3 => ?_)
      · replace c18_3 : m 304 k = 0 := c18_3
        refine xk_inc1 rfl (p := 27) rfl (n := k) rfl (by omega) (ls' := [(2, ((292 : Nat) : Int)), (0, ((z : Nat) : Int)), (0, ((k + 1 : Nat) : Int))]) rfl ?_
        refine xk_goto rfl ?_
        exact ih1 (by omega) z (by first | exact xcnt_in hi1 (decide_eq_true (by omega)) | exact xcnt_out hi1 (fun h => by have h := of_decide_eq_true h; omega)) (by omega)
      · replace c18_3 : ¬ (m 304 k = 0) := c18_3
        refine xk_inc1 rfl (p := 24) rfl (n := z) rfl (by omega) (ls' := [(2, ((292 : Nat) : Int)), (0, ((z + 1 : Nat) : Int)), (0, ((k : Nat) : Int))]) rfl ?_
        refine xk_inc1 rfl (p := 27) rfl (n := k) rfl (by omega) (ls' := [(2, ((292 : Nat) : Int)), (0, ((z + 1 : Nat) : Int)), (0, ((k + 1 : Nat) : Int))]) rfl ?_
        refine xk_goto rfl ?_
        exact ih1 (by omega) (z + 1) (by first | exact xcnt_in hi1 (decide_eq_true (by omega)) | exact xcnt_out hi1 (fun h => by have h := of_decide_eq_true h; omega)) (by omega)
  exact lp1 0 (by omega) 0 (by rfl) (by omega)

def y_count (m : xD) (x : Int) : Int :=
  if x = 0 then (((nN m : Nat) : Int)) else (if x = 1 then (((xcnt (fun d => decide (0 < m 300 d)) 4 : Nat) : Int)) else (if x = 2 then (m 292 19) else (if x = 3 then (m 292 22) else (if x = 4 then (m 292 25) else (if x = 5 then (m 292 17) else (-2))))))
theorem n_count {d : Nat} {g : xG} {t m : xD} {x : Int} (L : xLay g) (hM : Mo t m) (hI : Inv m)  : xCall (d + 1) 192 [(2, ((292 : Nat) : Int)), (0, x)] g t (xQ g t (some (0, y_count m  x ))) := by
  show xOk (d + 1) 192 0 [(2, ((292 : Nat) : Int)), (0, x)] [] g t _
  have iNn_ := iNn hI
  refine xk_load rfl (p := 1) rfl rfl ?_
  by_cases c1_1 : x = 0
  · refine xk_switch rfl (w := 40) (by rw [c1_1]; rfl) ?_
    refine xk_load rfl (p := 41) rfl rfl ?_
    refine xk_getf rfl (p := 44) rfl (xob (ly_m L) (by decide)) (v := (0, ((nN m : Nat) : Int))) (xsl0 rfl ((hM 292 0 (by decide)).trans (iNn hI).1)) ?_
    have iNn_ := iNn hI
    refine xk_rete rfl (rfl) ?_
    exact ((if_pos c1_1)).symm
  by_cases c1_2 : x = 1
  · refine xk_switch rfl (w := 45) (by rw [c1_2]; rfl) ?_
    refine xk_load rfl (p := 46) rfl rfl ?_
    refine xk_callp rfl (p := 49) rfl (by decide) rfl (Nat.le_of_ble_eq_true rfl) (Nat.le_of_ble_eq_true rfl) (xrv (ly_m L) (by decide)) (as := [(2, ((292 : Nat) : Int))]) (r := []) rfl (v := (0, ((xcnt (fun d => decide (0 < m 300 d)) 4 : Nat) : Int))) (n_deals L hM hI) ?_
    refine xk_rete rfl (rfl) ?_
    exact ((if_neg c1_1).trans ((if_pos c1_2))).symm
  by_cases c1_3 : x = 2
  · refine xk_switch rfl (w := 50) (by rw [c1_3]; rfl) ?_
    refine xk_load rfl (p := 51) rfl rfl ?_
    refine xk_getf rfl (p := 54) rfl (xob (ly_m L) (by decide)) (v := (0, m 292 19)) (xsl0 rfl (hM 292 19 (by decide))) ?_
    have iS_ := iS hI
    refine xk_rete rfl (rfl) ?_
    exact ((if_neg c1_1).trans ((if_neg c1_2).trans ((if_pos c1_3)))).symm
  by_cases c1_4 : x = 3
  · refine xk_switch rfl (w := 55) (by rw [c1_4]; rfl) ?_
    refine xk_load rfl (p := 56) rfl rfl ?_
    refine xk_getf rfl (p := 59) rfl (xob (ly_m L) (by decide)) (v := (0, m 292 22)) (xsl0 rfl (hM 292 22 (by decide))) ?_
    have iL_ := iL hI
    refine xk_rete rfl (rfl) ?_
    exact ((if_neg c1_1).trans ((if_neg c1_2).trans ((if_neg c1_3).trans ((if_pos c1_4))))).symm
  by_cases c1_5 : x = 4
  · refine xk_switch rfl (w := 60) (by rw [c1_5]; rfl) ?_
    refine xk_load rfl (p := 61) rfl rfl ?_
    refine xk_getf rfl (p := 64) rfl (xob (ly_m L) (by decide)) (v := (0, m 292 25)) (xsl0 rfl (hM 292 25 (by decide))) ?_
    have iB_ := iB hI
    refine xk_rete rfl (rfl) ?_
    exact ((if_neg c1_1).trans ((if_neg c1_2).trans ((if_neg c1_3).trans ((if_neg c1_4).trans ((if_pos c1_5)))))).symm
  by_cases c1_6 : x = 5
  · refine xk_switch rfl (w := 65) (by rw [c1_6]; rfl) ?_
    refine xk_load rfl (p := 66) rfl rfl ?_
    refine xk_getf rfl (p := 69) rfl (xob (ly_m L) (by decide)) (v := (0, m 292 17)) (xsl0 rfl (hM 292 17 (by decide))) ?_
    refine xk_rete rfl (rfl) ?_
    exact ((if_neg c1_1).trans ((if_neg c1_2).trans ((if_neg c1_3).trans ((if_neg c1_4).trans ((if_neg c1_5).trans ((if_pos c1_6))))))).symm
  refine xk_switch rfl (w := 70) (if_pos (by first | omega | (simp only [List.length]; omega))) ?_
  refine xk_push rfl (p := 72) rfl ?_
  refine xk_rete rfl (rfl) ?_
  exact ((if_neg c1_1).trans ((if_neg c1_2).trans ((if_neg c1_3).trans ((if_neg c1_4).trans ((if_neg c1_5).trans ((if_neg c1_6))))))).symm

theorem xlast_in {p : Nat → Bool} {f : Nat → Int} {x z w : Int} {k : Nat} (hp : p k = true) (hw : w = f k) : w = xlast p f x (k + 1) := by
  show _ = (if p k = true then f k else xlast p f x k)
  rw [if_pos hp, hw]
theorem xlast_out {p : Nat → Bool} {f : Nat → Int} {x z : Int} {k : Nat} (h : z = xlast p f x k) (hp : ¬ p k = true) : z = xlast p f x (k + 1) := by
  show _ = (if p k = true then f k else xlast p f x k)
  rw [if_neg hp, h]
def sAt (m : xD) (n : Nat) (y : Int) : Int := xlast (fun e => decide (m 299 (18 * n + 3 * e) ≤ y)) (fun e => m 299 (18 * n + 3 * e + 2)) (m 299 (18 * n + 1)) (nJ m n)
def y_at (m : xD) (x y : Int) : Int := if 0 ≤ x ∧ x < m 292 0 then (if 0 ≤ y then (if nJ m x.toNat = 0 then sSto m x.toNat else sAt m x.toNat y) else -2) else -1
theorem n_at {d : Nat} {g : xG} {t m : xD} {x y : Int} (L : xLay g) (hM : Mo t m) (hI : Inv m) : xCall (d + 2) 139 [(2, ((292 : Nat) : Int)), (0, x), (0, y)] g t (xQ g t (some (0, y_at m x y))) := by
  show xOk (d + 2) 139 0 [(2, ((292 : Nat) : Int)), (0, x), (0, y), (3, 0), (3, 0)] [] g t _
  have iNn_ := iNn hI
  refine xk_load rfl (p := 1) rfl rfl ?_
  refine xk_load rfl (p := 2) rfl rfl ?_
  refine xk_callp rfl (p := 5) rfl (by decide) rfl (Nat.le_of_ble_eq_true rfl) (Nat.le_of_ble_eq_true rfl) (xrv (ly_m L) (by decide)) (as := [(2, ((292 : Nat) : Int)), (0, x)]) (r := []) rfl (v := (0, (if 0 ≤ x ∧ x < m 292 0 then (1 : Int) else 0))) (n_isName L hM hI) ?_
  have iNn_ := iNn hI
  refine xk_if rfl (p := 8) rfl (fun c5_1 => ?_) (fun c5_1 => ?_)
  · replace c5_1 : 0 ≤ x ∧ x < m 292 0 := xb_n0 c5_1
    refine xk_load rfl (p := 11) rfl rfl ?_
    refine xk_if rfl (p := 14) rfl (fun c11_2 => ?_) (fun c11_2 => ?_)
    · replace c11_2 : 0 ≤ y := c11_2
      refine xk_load rfl (p := 18) rfl rfl ?_
      refine xk_getf rfl (p := 21) rfl (xob (ly_m L) (by decide)) (v := (2, ((298 : Nat) : Int))) (xsl2 rfl (ly_mp7 L)) ?_
      refine xk_load rfl (p := 22) rfl rfl ?_
      refine xk_aldi rfl (p := 23) rfl (show 0 ≤ x by omega) (v := (0, ((nJ m (x.toNat) : Nat) : Int))) ((xal0 (ly_ms7 L) (show x.toNat < 12 by omega)).trans (congrArg (fun z => some (0, z)) ((hM 298 (x.toNat) (by decide)).trans (iJn hI (show x.toNat < nN m by omega)).1))) ?_
      have iJn_ := iJn hI (show x.toNat < nN m by omega)
      refine xk_if rfl (p := 26) rfl (fun c23_3 => ?_) (fun c23_3 => ?_)
      · replace c23_3 : ¬ (((nJ m (x.toNat) : Nat) : Int) = 0) := c23_3
        refine xk_load rfl (p := 33) rfl rfl ?_
        refine xk_getf rfl (p := 36) rfl (xob (ly_m L) (by decide)) (v := (2, ((299 : Nat) : Int))) (xsl2 rfl (ly_mp8 L)) ?_
        refine xk_push rfl (p := 38) rfl ?_
        refine xk_load rfl (p := 39) rfl rfl ?_
        refine xk_bin rfl (p := 40) rfl (z := (18 * x)) (congrArg some (xmul_r (by omega) (by omega))) ?_
        refine xk_push rfl (p := 41) rfl ?_
        refine xk_bin rfl (p := 42) rfl (z := ((18 * x) + 1)) (congrArg some (xadd_r (by omega) (by omega))) ?_
        refine xk_aldi rfl (p := 43) rfl (show 0 ≤ ((18 * x) + 1) by omega) (v := (0, m 299 (((18 * x) + 1).toNat))) ((xal0 (ly_ms8 L) (show ((18 * x) + 1).toNat < 216 by omega)).trans (congrArg (fun z => some (0, z)) (hM 299 (((18 * x) + 1).toNat) (by decide)))) ?_
        refine xk_store rfl (p := 44) rfl (by decide) (Nat.le_of_ble_eq_true rfl) (ls' := [(2, ((292 : Nat) : Int)), (0, x), (0, y), (0, m 299 (((18 * x) + 1).toNat)), (3, 0)]) rfl ?_
        refine xk_push rfl (p := 45) rfl ?_
        refine xk_store rfl (p := 47) rfl (by decide) (Nat.le_of_ble_eq_true rfl) (ls' := [(2, ((292 : Nat) : Int)), (0, x), (0, y), (0, m 299 (((18 * x) + 1).toNat)), (0, 0)]) rfl ?_
        have lp4 : ∀ k : Nat, k ≤ nJ m x.toNat → ∀ (z : Int), (z = xlast (fun e => decide (m 299 (18 * x.toNat + 3 * e) ≤ y)) (fun e => m 299 (18 * x.toNat + 3 * e + 2)) (m 299 (18 * x.toNat + 1)) k) → xOk (d + 2) 139 47 [(2, ((292 : Nat) : Int)), (0, x), (0, y), (0, z), (0, ((k : Nat) : Int))] [] g t (xQ g t (some (0, y_at m x y))) := by
          refine xk_up (nJ m x.toNat) (fun k hkk ih4 z hi1 => ?_)
          have ix : (18 * x + ((3 * k : Nat) : Int)).toNat = 18 * x.toNat + 3 * k := by omega
          refine xk_load rfl (p := 49) rfl rfl ?_
          refine xk_load rfl (p := 50) rfl rfl ?_
          refine xk_getf rfl (p := 53) rfl (xob (ly_m L) (by decide)) (v := (2, ((298 : Nat) : Int))) (xsl2 rfl (ly_mp7 L)) ?_
          refine xk_load rfl (p := 54) rfl rfl ?_
          refine xk_aldi rfl (p := 55) rfl (show 0 ≤ x by omega) (v := (0, ((nJ m (x.toNat) : Nat) : Int))) ((xal0 (ly_ms7 L) (show x.toNat < 12 by omega)).trans (congrArg (fun z => some (0, z)) ((hM 298 (x.toNat) (by decide)).trans (iJn hI (show x.toNat < nN m by omega)).1))) ?_
          have iJn_ := iJn hI (show x.toNat < nN m by omega)
          refine xk_icmp rfl (p := 58) rfl (fun c55_5 => ?_) (fun c55_5 => ?_)
          · replace c55_5 : ((nJ m (x.toNat) : Nat) : Int) ≤ ((k : Nat) : Int) := c55_5
            refine xk_load rfl (p := 100) rfl rfl ?_
            refine xk_rete rfl (rfl) ?_
            rw [hi1, show k = nJ m x.toNat by omega]
            exact ((if_pos (by assumption)).trans ((if_pos (by omega)).trans (if_neg (by omega)))).symm
          · replace c55_5 : ¬ (((nJ m (x.toNat) : Nat) : Int) ≤ ((k : Nat) : Int)) := c55_5
            refine xk_load rfl (p := 59) rfl rfl ?_
            refine xk_getf rfl (p := 62) rfl (xob (ly_m L) (by decide)) (v := (2, ((299 : Nat) : Int))) (xsl2 rfl (ly_mp8 L)) ?_
            refine xk_push rfl (p := 64) rfl ?_
            refine xk_load rfl (p := 65) rfl rfl ?_
            refine xk_bin rfl (p := 66) rfl (z := (18 * x)) (congrArg some (xmul_r (by omega) (by omega))) ?_
            refine xk_push rfl (p := 67) rfl ?_
            refine xk_load rfl (p := 69) rfl rfl ?_
            refine xk_bin rfl (p := 70) rfl (z := ((3 * k : Nat) : Int)) (congrArg some (xmul_n (n := 3) (m := k) (by omega))) ?_
            refine xk_bin rfl (p := 71) rfl (z := ((18 * x) + ((3 * k : Nat) : Int))) (congrArg some (xadd_r (by omega) (by omega))) ?_
            refine xk_aldi rfl (p := 72) rfl (show 0 ≤ ((18 * x) + ((3 * k : Nat) : Int)) by omega) (v := (0, m 299 (((18 * x) + ((3 * k : Nat) : Int)).toNat))) ((xal0 (ly_ms8 L) (show ((18 * x) + ((3 * k : Nat) : Int)).toNat < 216 by omega)).trans (congrArg (fun z => some (0, z)) (hM 299 (((18 * x) + ((3 * k : Nat) : Int)).toNat) (by decide)))) ?_
            refine xk_load rfl (p := 73) rfl rfl ?_
            refine xk_icmp rfl (p := 76) rfl (fun c73_6 => ?_) (fun c73_6 => ?_)
            · replace c73_6 : y < m 299 (((18 * x) + ((3 * k : Nat) : Int)).toNat) := c73_6
              refine xk_inc1 rfl (p := 96) rfl (n := k) rfl (by omega) (ls' := [(2, ((292 : Nat) : Int)), (0, x), (0, y), (0, z), (0, ((k + 1 : Nat) : Int))]) rfl ?_
              refine xk_goto rfl ?_
              exact ih4 (by omega) z (by first | exact xlast_out hi1 (fun h => by have h := of_decide_eq_true h; rw [ix] at *; omega) | exact xlast_in (z := z) (decide_eq_true (by rw [ix] at *; omega)) (congrArg (m 299) (by omega)))
            · replace c73_6 : ¬ (y < m 299 (((18 * x) + ((3 * k : Nat) : Int)).toNat)) := c73_6
              refine xk_load rfl (p := 77) rfl rfl ?_
              refine xk_getf rfl (p := 80) rfl (xob (ly_m L) (by decide)) (v := (2, ((299 : Nat) : Int))) (xsl2 rfl (ly_mp8 L)) ?_
              refine xk_push rfl (p := 82) rfl ?_
              refine xk_load rfl (p := 83) rfl rfl ?_
              refine xk_bin rfl (p := 84) rfl (z := (18 * x)) (congrArg some (xmul_r (by omega) (by omega))) ?_
              refine xk_push rfl (p := 85) rfl ?_
              refine xk_load rfl (p := 87) rfl rfl ?_
              refine xk_bin rfl (p := 88) rfl (z := ((3 * k : Nat) : Int)) (congrArg some (xmul_n (n := 3) (m := k) (by omega))) ?_
              refine xk_bin rfl (p := 89) rfl (z := ((18 * x) + ((3 * k : Nat) : Int))) (congrArg some (xadd_r (by omega) (by omega))) ?_
              refine xk_push rfl (p := 90) rfl ?_
              refine xk_bin rfl (p := 91) rfl (z := (((18 * x) + ((3 * k : Nat) : Int)) + 2)) (congrArg some (xadd_r (by omega) (by omega))) ?_
              refine xk_aldi rfl (p := 92) rfl (show 0 ≤ (((18 * x) + ((3 * k : Nat) : Int)) + 2) by omega) (v := (0, m 299 ((((18 * x) + ((3 * k : Nat) : Int)) + 2).toNat))) ((xal0 (ly_ms8 L) (show (((18 * x) + ((3 * k : Nat) : Int)) + 2).toNat < 216 by omega)).trans (congrArg (fun z => some (0, z)) (hM 299 ((((18 * x) + ((3 * k : Nat) : Int)) + 2).toNat) (by decide)))) ?_
              refine xk_store rfl (p := 93) rfl (by decide) (Nat.le_of_ble_eq_true rfl) (ls' := [(2, ((292 : Nat) : Int)), (0, x), (0, y), (0, m 299 ((((18 * x) + ((3 * k : Nat) : Int)) + 2).toNat)), (0, ((k : Nat) : Int))]) rfl ?_
              refine xk_inc1 rfl (p := 96) rfl (n := k) rfl (by omega) (ls' := [(2, ((292 : Nat) : Int)), (0, x), (0, y), (0, m 299 ((((18 * x) + ((3 * k : Nat) : Int)) + 2).toNat)), (0, ((k + 1 : Nat) : Int))]) rfl ?_
              refine xk_goto rfl ?_
              exact ih4 (by omega) (m 299 ((((18 * x) + ((3 * k : Nat) : Int)) + 2).toNat)) (by first | exact xlast_out hi1 (fun h => by have h := of_decide_eq_true h; rw [ix] at *; omega) | exact xlast_in (z := z) (decide_eq_true (by rw [ix] at *; omega)) (congrArg (m 299) (by omega)))
        exact lp4 0 (by omega) (m 299 (((18 * x) + 1).toNat)) (by exact congrArg (m 299) (by omega))
      · replace c23_3 : ((nJ m (x.toNat) : Nat) : Int) = 0 := Decidable.not_not.mp c23_3
        refine xk_load rfl (p := 27) rfl rfl ?_
        refine xk_load rfl (p := 28) rfl rfl ?_
        refine xk_stk (show _ = (0, ((x.toNat : Nat) : Int)) :: [(2, ((292 : Nat) : Int))] from congrArg (fun z => ((0, z) : xV) :: [(2, ((292 : Nat) : Int))]) (Int.toNat_of_nonneg (show 0 ≤ x by omega)).symm) ?_
        refine xk_callp rfl (p := 31) rfl (by decide) rfl (Nat.le_of_ble_eq_true rfl) (Nat.le_of_ble_eq_true rfl) (xrv (ly_m L) (by decide)) (as := [(2, ((292 : Nat) : Int)), (0, ((x.toNat : Nat) : Int))]) (r := []) rfl (v := (0, sSto m (x.toNat))) (n_stored L hM hI (show x.toNat < 12 by omega)) ?_
        refine xk_rete rfl (rfl) ?_
        exact ((if_pos (by assumption)).trans ((if_pos (by omega)).trans (if_pos (by omega)))).symm
    · replace c11_2 : ¬ (0 ≤ y) := c11_2
      refine xk_push rfl (p := 16) rfl ?_
      refine xk_rete rfl (rfl) ?_
      exact ((if_pos (by assumption)).trans (if_neg (by omega))).symm
  · replace c5_1 : ¬ (0 ≤ x ∧ x < m 292 0) := xb_e1 c5_1
    refine xk_push rfl (p := 9) rfl ?_
    refine xk_rete rfl (rfl) ?_
    exact (if_neg (by assumption)).symm

def y_looked (m : xD) : Int := xiy (m 292 25).toNat (xfst (fun i => decide (¬ sVal m (m 310 i).toNat = m 311 i)) (m 292 25).toNat) (-5)
theorem n_looked {d : Nat} {g : xG} {t m : xD} (L : xLay g) (hM : Mo t m) (hI : Inv m) : xCall (d + 3) 185 [(2, ((292 : Nat) : Int))] g t (xQ g t (some (0, y_looked m))) := by
  show xOk (d + 3) 185 0 [(2, ((292 : Nat) : Int)), (3, 0)] [] g t _
  have iNn_ := iNn hI
  have iB0_ := iB hI
  refine xk_push rfl (p := 1) rfl ?_
  refine xk_store rfl (p := 2) rfl (by decide) (Nat.le_of_ble_eq_true rfl) (ls' := [(2, ((292 : Nat) : Int)), (0, 0)]) rfl ?_
  have lp1 : ∀ k : Nat, k ≤ (m 292 25).toNat → (∀ i, i < k → ¬ ¬ sVal m (m 310 i).toNat = m 311 i) → xOk (d + 3) 185 2 [(2, ((292 : Nat) : Int)), (0, ((k : Nat) : Int))] [] g t (xQ g t (some (0, y_looked m))) := by
    refine xk_up ((m 292 25).toNat) (fun k hkk ih1  hi1 => ?_)
    refine xk_load rfl (p := 3) rfl rfl ?_
    refine xk_load rfl (p := 4) rfl rfl ?_
    refine xk_getf rfl (p := 7) rfl (xob (ly_m L) (by decide)) (v := (0, m 292 25)) (xsl0 rfl (hM 292 25 (by decide))) ?_
    have iB_ := iB hI
    refine xk_icmp rfl (p := 10) rfl (fun c7_2 => ?_) (fun c7_2 => ?_)
    · replace c7_2 : m 292 25 ≤ ((k : Nat) : Int) := c7_2
      refine xk_push rfl (p := 39) rfl ?_
      refine xk_rete rfl (rfl) ?_
      exact xiyf0 (by omega) hi1
    · replace c7_2 : ¬ (m 292 25 ≤ ((k : Nat) : Int)) := c7_2
      refine xk_load rfl (p := 11) rfl rfl ?_
      refine xk_load rfl (p := 12) rfl rfl ?_
      refine xk_getf rfl (p := 15) rfl (xob (ly_m L) (by decide)) (v := (2, ((310 : Nat) : Int))) (xsl2 rfl (ly_mp26 L)) ?_
      refine xk_load rfl (p := 16) rfl rfl ?_
      refine xk_ald rfl (p := 17) rfl (v := (0, m 310 k)) ((xal0 (ly_ms26 L) (show k < 8 by omega)).trans (congrArg (fun z => some (0, z)) (hM 310 k (by decide)))) ?_
      have iB_ := (iB hI).2.2 k (show ((k : Nat) : Int) < m 292 25 by omega)
      refine xk_stk (show _ = (0, (((m 310 k).toNat : Nat) : Int)) :: [(2, ((292 : Nat) : Int))] from congrArg (fun z => ((0, z) : xV) :: [(2, ((292 : Nat) : Int))]) (Int.toNat_of_nonneg (show 0 ≤ m 310 k by omega)).symm) ?_
      refine xk_callp rfl (p := 20) rfl (by decide) rfl (Nat.le_of_ble_eq_true rfl) (Nat.le_of_ble_eq_true rfl) (xrv (ly_m L) (by decide)) (as := [(2, ((292 : Nat) : Int)), (0, (((m 310 k).toNat : Nat) : Int))]) (r := []) rfl (v := (0, sVal m ((m 310 k).toNat))) (n_value L hM hI (show (m 310 k).toNat < 12 by omega)) ?_
      refine xk_load rfl (p := 21) rfl rfl ?_
      refine xk_getf rfl (p := 24) rfl (xob (ly_m L) (by decide)) (v := (2, ((311 : Nat) : Int))) (xsl2 rfl (ly_mp27 L)) ?_
      refine xk_load rfl (p := 25) rfl rfl ?_
      refine xk_ald rfl (p := 26) rfl (v := (0, m 311 k)) ((xal0 (ly_ms27 L) (show k < 8 by omega)).trans (congrArg (fun z => some (0, z)) (hM 311 k (by decide)))) ?_
      refine xk_icmp rfl (p := 29) rfl (fun c26_3 => ?_) (fun c26_3 => ?_)
      · replace c26_3 : sVal m ((m 310 k).toNat) = m 311 k := c26_3
        refine xk_inc1 rfl (p := 34) rfl (n := k) rfl (by omega) (ls' := [(2, ((292 : Nat) : Int)), (0, ((k + 1 : Nat) : Int))]) rfl ?_
        refine xk_goto rfl ?_
        exact ih1 (by omega)  (by exact xall_up hi1 (by omega))
      · replace c26_3 : ¬ (sVal m ((m 310 k).toNat) = m 311 k) := c26_3
        refine xk_load rfl (p := 30) rfl rfl ?_
        refine xk_rete rfl (rfl) ?_
        exact xiyf1 (by omega) hi1 (by assumption)
  exact lp1 0 (by omega)  (by intro i h; omega)

def y_read (m : xD) (x : Int) (y : Int) : Int :=
  if 0 ≤ x ∧ x ≤ 5 then (if m 316 (x.toNat) < 0 then (-9223372036854775808) else (if 0 ≤ y ∧ y ≤ (m 317 (x.toNat) - 1) then (m 318 (((60 * x) + y).toNat)) else (-9223372036854775808))) else (-9223372036854775808)
theorem n_read {d : Nat} {g : xG} {t m : xD} {x y : Int} (L : xLay g) (hM : Mo t m) (hI : Inv m) (hT : MT m) : xCall (d + 2) 197 [(2, ((292 : Nat) : Int)), (0, x), (0, y)] g t (xQ g t (some (1, y_read m  x  y ))) := by
  show xOk (d + 2) 197 0 [(2, ((292 : Nat) : Int)), (0, x), (0, y)] [] g t _
  have iNn_ := iNn hI
  refine xk_load rfl (p := 1) rfl rfl ?_
  refine xk_callp rfl (p := 4) rfl (by decide) rfl (Nat.le_of_ble_eq_true rfl) (Nat.le_of_ble_eq_true rfl) (rfl) (as := [(0, x)]) (r := []) rfl (v := (0, (if 0 ≤ x ∧ x ≤ 5 then (1 : Int) else 0))) (n_isTape) ?_
  refine xk_if rfl (p := 7) rfl (fun c4_1 => ?_) (fun c4_1 => ?_)
  · replace c4_1 : ¬ (0 ≤ x ∧ x ≤ 5) := xb_e0 c4_1
    refine xk_push rfl (p := 49) rfl ?_
    refine xk_rete rfl (rfl) ?_
    exact ((if_neg c4_1)).symm
  · replace c4_1 : 0 ≤ x ∧ x ≤ 5 := xb_n0 c4_1
    refine xk_load rfl (p := 8) rfl rfl ?_
    refine xk_getf rfl (p := 11) rfl (xob (ly_m L) (by decide)) (v := (2, ((316 : Nat) : Int))) (xsl2 rfl (ly_mp39 L)) ?_
    refine xk_load rfl (p := 12) rfl rfl ?_
    refine xk_aldi rfl (p := 13) rfl (show 0 ≤ x by omega) (v := (0, m 316 (x.toNat))) ((xal0 (ly_ms39 L) (show x.toNat < 6 by omega)).trans (congrArg (fun z => some (0, z)) (hM 316 (x.toNat) (by decide)))) ?_
    have hT_ := hT (x.toNat) (by omega)
    refine xk_if rfl (p := 16) rfl (fun c13_2 => ?_) (fun c13_2 => ?_)
    · replace c13_2 : m 316 (x.toNat) < 0 := c13_2
      refine xk_push rfl (p := 49) rfl ?_
      refine xk_rete rfl (rfl) ?_
      exact ((if_pos c4_1).trans ((if_pos c13_2))).symm
    · replace c13_2 : ¬ (m 316 (x.toNat) < 0) := c13_2
      refine xk_load rfl (p := 17) rfl rfl ?_
      refine xk_push rfl (p := 18) rfl ?_
      refine xk_load rfl (p := 19) rfl rfl ?_
      refine xk_getf rfl (p := 22) rfl (xob (ly_m L) (by decide)) (v := (2, ((317 : Nat) : Int))) (xsl2 rfl (ly_mp40 L)) ?_
      refine xk_load rfl (p := 23) rfl rfl ?_
      refine xk_aldi rfl (p := 24) rfl (show 0 ≤ x by omega) (v := (0, m 317 (x.toNat))) ((xal0 (ly_ms40 L) (show x.toNat < 6 by omega)).trans (congrArg (fun z => some (0, z)) (hM 317 (x.toNat) (by decide)))) ?_
      have hT_ := hT (x.toNat) (by omega)
      refine xk_push rfl (p := 25) rfl ?_
      refine xk_bin rfl (p := 26) rfl (z := (m 317 (x.toNat) - 1)) (congrArg some (xsub_r (by omega) (by omega))) ?_
      refine xk_callp rfl (p := 29) rfl (by decide) rfl (Nat.le_of_ble_eq_true rfl) (Nat.le_of_ble_eq_true rfl) (rfl) (as := [(0, y), (0, 0), (0, (m 317 (x.toNat) - 1))]) (r := []) rfl (v := (0, (if 0 ≤ y ∧ y ≤ (m 317 (x.toNat) - 1) then (1 : Int) else 0))) (n_within) ?_
      refine xk_if rfl (p := 32) rfl (fun c29_3 => ?_) (fun c29_3 => ?_)
      · replace c29_3 : ¬ (0 ≤ y ∧ y ≤ (m 317 (x.toNat) - 1)) := xb_e0 c29_3
        refine xk_push rfl (p := 49) rfl ?_
        refine xk_rete rfl (rfl) ?_
        exact ((if_pos c4_1).trans ((if_neg c13_2).trans ((if_neg c29_3)))).symm
      · replace c29_3 : 0 ≤ y ∧ y ≤ (m 317 (x.toNat) - 1) := xb_n0 c29_3
        refine xk_load rfl (p := 33) rfl rfl ?_
        refine xk_getf rfl (p := 36) rfl (xob (ly_m L) (by decide)) (v := (2, ((318 : Nat) : Int))) (xsl2 rfl (ly_mp41 L)) ?_
        refine xk_push rfl (p := 38) rfl ?_
        refine xk_load rfl (p := 39) rfl rfl ?_
        refine xk_bin rfl (p := 40) rfl (z := (60 * x)) (congrArg some (xmul_r (by omega) (by omega))) ?_
        refine xk_load rfl (p := 41) rfl rfl ?_
        refine xk_bin rfl (p := 42) rfl (z := ((60 * x) + y)) (congrArg some (xadd_r (by omega) (by omega))) ?_
        refine xk_aldi rfl (p := 43) rfl (show 0 ≤ ((60 * x) + y) by omega) (v := (1, m 318 (((60 * x) + y).toNat))) ((xal1 (ly_ms41 L) (show ((60 * x) + y).toNat < 360 by omega)).trans (congrArg (fun z => some (1, z)) (hM 318 (((60 * x) + y).toNat) (by decide)))) ?_
        refine xk_goto rfl ?_
        refine xk_rete rfl (rfl) ?_
        exact ((if_pos c4_1).trans ((if_neg c13_2).trans ((if_pos c29_3)))).symm

/-- the item of a tape for a number -/
def sKept (s v : Int) : Int := if s = 0 then xi2b (xl2i v) else if s = 1 then xi2s (xl2i v) else if s = 2 then xl2i v else if s = 3 then v else if v = 0 then 0 else 1
theorem n_kept {d : Nat} {g : xG} {t : xD} {x y : Int}  : xCall (d) 195 [(0, x), (1, y)] g t (xQ g t (some (1, sKept x y))) := by
  show xOk (d) 195 0 [(0, x), (1, y), (3, 0)] [] g t _
  refine xk_load rfl (p := 1) rfl rfl ?_
  by_cases c1_1 : x = 0
  · refine xk_switch rfl (w := 32) (by rw [c1_1]; rfl) ?_
    refine xk_load rfl (p := 33) rfl rfl ?_
    refine xk_un rfl (p := 34) rfl (w := (0, xl2i y)) (rfl) ?_
    refine xk_un rfl (p := 35) rfl (w := (0, xi2b (xl2i y))) (rfl) ?_
    refine xk_un rfl (p := 36) rfl (w := (1, xi2b (xl2i y))) (rfl) ?_
    refine xk_rete rfl (rfl) ?_
    have xl := @xlcmp_c y 0
    unfold sKept
    (repeat' split) <;> first | rfl | (exfalso; omega)
  by_cases c1_2 : x = 1
  · refine xk_switch rfl (w := 37) (by rw [c1_2]; rfl) ?_
    refine xk_load rfl (p := 38) rfl rfl ?_
    refine xk_un rfl (p := 39) rfl (w := (0, xl2i y)) (rfl) ?_
    refine xk_un rfl (p := 40) rfl (w := (0, xi2s (xl2i y))) (rfl) ?_
    refine xk_un rfl (p := 41) rfl (w := (1, xi2s (xl2i y))) (rfl) ?_
    refine xk_rete rfl (rfl) ?_
    have xl := @xlcmp_c y 0
    unfold sKept
    (repeat' split) <;> first | rfl | (exfalso; omega)
  by_cases c1_3 : x = 2
  · refine xk_switch rfl (w := 42) (by rw [c1_3]; rfl) ?_
    refine xk_load rfl (p := 43) rfl rfl ?_
    refine xk_un rfl (p := 44) rfl (w := (0, xl2i y)) (rfl) ?_
    refine xk_un rfl (p := 45) rfl (w := (1, xl2i y)) (rfl) ?_
    refine xk_rete rfl (rfl) ?_
    have xl := @xlcmp_c y 0
    unfold sKept
    (repeat' split) <;> first | rfl | (exfalso; omega)
  by_cases c1_4 : x = 3
  · refine xk_switch rfl (w := 46) (by rw [c1_4]; rfl) ?_
    refine xk_load rfl (p := 47) rfl rfl ?_
    refine xk_rete rfl (rfl) ?_
    have xl := @xlcmp_c y 0
    unfold sKept
    (repeat' split) <;> first | rfl | (exfalso; omega)
  refine xk_switch rfl (w := 48) (if_pos (by first | omega | (simp only [List.length]; omega))) ?_
  refine xk_load rfl (p := 49) rfl rfl ?_
  refine xk_push rfl (p := 50) rfl ?_
  refine xk_lbin rfl (p := 51) rfl rfl (w := (0, xlcmp y 0)) (rfl) ?_
  refine xk_if rfl (p := 54) rfl (fun c51_5 => ?_) (fun c51_5 => ?_)
  · replace c51_5 : xlcmp y 0 = 0 := c51_5
    refine xk_push rfl (p := 59) rfl ?_
    refine xk_rete rfl (rfl) ?_
    have xl := @xlcmp_c y 0
    unfold sKept
    (repeat' split) <;> first | rfl | (exfalso; omega)
  · replace c51_5 : ¬ (xlcmp y 0 = 0) := c51_5
    refine xk_push rfl (p := 55) rfl ?_
    refine xk_goto rfl ?_
    refine xk_rete rfl (rfl) ?_
    have xl := @xlcmp_c y 0
    unfold sKept
    (repeat' split) <;> first | rfl | (exfalso; omega)

def y_item (m : xD) (x : Int) (y : Int) (z : Int) : Option xV × xD :=
  if 0 ≤ x ∧ x ≤ 5 then (if 0 ≤ m 316 (x.toNat) then (if 0 ≤ y ∧ y ≤ (m 317 (x.toNat) - 1) then ((some (0, 1), xupd m 318 (((60 * x) + y).toNat) (sKept (m 316 (x.toNat)) z))) else ((some (0, (-13)), m))) else ((some (0, (-11)), m))) else ((some (0, (-1)), m))
theorem n_item {d : Nat} {g : xG} {t m : xD} {x y z : Int} (L : xLay g) (hM : Mo t m) (hI : Inv m) (hT : MT m) : xCall (d + 2) 196 [(2, ((292 : Nat) : Int)), (0, x), (0, y), (1, z)] g t (yQ g t (y_item m  x  y  z )) := by
  show xOk (d + 2) 196 0 [(2, ((292 : Nat) : Int)), (0, x), (0, y), (1, z), (3, 0)] [] g t _
  have iNn_ := iNn hI
  refine xk_load rfl (p := 1) rfl rfl ?_
  refine xk_callp rfl (p := 4) rfl (by decide) rfl (Nat.le_of_ble_eq_true rfl) (Nat.le_of_ble_eq_true rfl) (rfl) (as := [(0, x)]) (r := []) rfl (v := (0, (if 0 ≤ x ∧ x ≤ 5 then (1 : Int) else 0))) (n_isTape) ?_
  refine xk_if rfl (p := 7) rfl (fun c4_1 => ?_) (fun c4_1 => ?_)
  · replace c4_1 : 0 ≤ x ∧ x ≤ 5 := xb_n0 c4_1
    refine xk_load rfl (p := 10) rfl rfl ?_
    refine xk_getf rfl (p := 13) rfl (xob (ly_m L) (by decide)) (v := (2, ((316 : Nat) : Int))) (xsl2 rfl (ly_mp39 L)) ?_
    refine xk_load rfl (p := 14) rfl rfl ?_
    refine xk_aldi rfl (p := 15) rfl (show 0 ≤ x by omega) (v := (0, m 316 (x.toNat))) ((xal0 (ly_ms39 L) (show x.toNat < 6 by omega)).trans (congrArg (fun z => some (0, z)) (hM 316 (x.toNat) (by decide)))) ?_
    have hT_ := hT (x.toNat) (by omega)
    refine xk_if rfl (p := 18) rfl (fun c15_2 => ?_) (fun c15_2 => ?_)
    · replace c15_2 : 0 ≤ m 316 (x.toNat) := c15_2
      refine xk_load rfl (p := 22) rfl rfl ?_
      refine xk_push rfl (p := 23) rfl ?_
      refine xk_load rfl (p := 24) rfl rfl ?_
      refine xk_getf rfl (p := 27) rfl (xob (ly_m L) (by decide)) (v := (2, ((317 : Nat) : Int))) (xsl2 rfl (ly_mp40 L)) ?_
      refine xk_load rfl (p := 28) rfl rfl ?_
      refine xk_aldi rfl (p := 29) rfl (show 0 ≤ x by omega) (v := (0, m 317 (x.toNat))) ((xal0 (ly_ms40 L) (show x.toNat < 6 by omega)).trans (congrArg (fun z => some (0, z)) (hM 317 (x.toNat) (by decide)))) ?_
      have hT_ := hT (x.toNat) (by omega)
      refine xk_push rfl (p := 30) rfl ?_
      refine xk_bin rfl (p := 31) rfl (z := (m 317 (x.toNat) - 1)) (congrArg some (xsub_r (by omega) (by omega))) ?_
      refine xk_callp rfl (p := 34) rfl (by decide) rfl (Nat.le_of_ble_eq_true rfl) (Nat.le_of_ble_eq_true rfl) (rfl) (as := [(0, y), (0, 0), (0, (m 317 (x.toNat) - 1))]) (r := []) rfl (v := (0, (if 0 ≤ y ∧ y ≤ (m 317 (x.toNat) - 1) then (1 : Int) else 0))) (n_within) ?_
      refine xk_if rfl (p := 37) rfl (fun c34_3 => ?_) (fun c34_3 => ?_)
      · replace c34_3 : 0 ≤ y ∧ y ≤ (m 317 (x.toNat) - 1) := xb_n0 c34_3
        refine xk_load rfl (p := 41) rfl rfl ?_
        refine xk_getf rfl (p := 44) rfl (xob (ly_m L) (by decide)) (v := (2, ((318 : Nat) : Int))) (xsl2 rfl (ly_mp41 L)) ?_
        refine xk_push rfl (p := 46) rfl ?_
        refine xk_load rfl (p := 47) rfl rfl ?_
        refine xk_bin rfl (p := 48) rfl (z := (60 * x)) (congrArg some (xmul_r (by omega) (by omega))) ?_
        refine xk_load rfl (p := 49) rfl rfl ?_
        refine xk_bin rfl (p := 50) rfl (z := ((60 * x) + y)) (congrArg some (xadd_r (by omega) (by omega))) ?_
        refine xk_load rfl (p := 51) rfl rfl ?_
        refine xk_getf rfl (p := 54) rfl (xob (ly_m L) (by decide)) (v := (2, ((316 : Nat) : Int))) (xsl2 rfl (ly_mp39 L)) ?_
        refine xk_load rfl (p := 55) rfl rfl ?_
        refine xk_aldi rfl (p := 56) rfl (show 0 ≤ x by omega) (v := (0, m 316 (x.toNat))) ((xal0 (ly_ms39 L) (show x.toNat < 6 by omega)).trans (congrArg (fun z => some (0, z)) (hM 316 (x.toNat) (by decide)))) ?_
        have hT_ := hT (x.toNat) (by omega)
        refine xk_load rfl (p := 57) rfl rfl ?_
        refine xk_callp rfl (p := 60) rfl (by decide) rfl (Nat.le_of_ble_eq_true rfl) (Nat.le_of_ble_eq_true rfl) (rfl) (as := [(0, m 316 (x.toNat)), (1, z)]) (r := [(0, ((60 * x) + y)), (2, ((318 : Nat) : Int))]) rfl (v := (1, sKept (m 316 (x.toNat)) z)) (n_kept) ?_
        refine xk_asti rfl (p := 61) rfl (show 0 ≤ ((60 * x) + y) by omega) (by decide) rfl (xsk (ly_ms41 L)) (xsn (ly_ms41 L) (show ((60 * x) + y).toNat < 360 by omega)) (by omega) ?_
        refine xk_push rfl (p := 62) rfl ?_
        refine xk_ret rfl (rfl) ?_
        exact yRet ((if_pos c4_1).trans ((if_pos c15_2).trans ((if_pos c34_3)))) (hM.up) ((Md.rf).up (by decide))
      · replace c34_3 : ¬ (0 ≤ y ∧ y ≤ (m 317 (x.toNat) - 1)) := xb_e1 c34_3
        refine xk_push rfl (p := 39) rfl ?_
        refine xk_ret rfl (rfl) ?_
        exact yRet ((if_pos c4_1).trans ((if_pos c15_2).trans ((if_neg c34_3)))) (hM) (Md.rf)
    · replace c15_2 : ¬ (0 ≤ m 316 (x.toNat)) := c15_2
      refine xk_push rfl (p := 20) rfl ?_
      refine xk_ret rfl (rfl) ?_
      exact yRet ((if_pos c4_1).trans ((if_neg c15_2))) (hM) (Md.rf)
  · replace c4_1 : ¬ (0 ≤ x ∧ x ≤ 5) := xb_e1 c4_1
    refine xk_push rfl (p := 8) rfl ?_
    refine xk_ret rfl (rfl) ?_
    exact yRet ((if_neg c4_1)) (hM) (Md.rf)

def pJu (m : xD) (x y : Int) (k : Nat) : Prop := m 316 x.toNat = -1 ∨ y < 0 ∨ m 317 x.toNat ≤ y + k
def y_judge (m : xD) (x y : Int) : Int := if 0 ≤ x ∧ x ≤ 5 then (if m 316 x.toNat = -1 ∨ m 316 x.toNat = 2 then
  (if xfst (fun k => decide ((m 316 x.toNat = -1 ∨ y < 0 ∨ m 317 x.toNat ≤ y + k) ∨ ¬ m 318 (60 * x.toNat + y.toNat + k) = sVal m k)) (nN m) < nN m then
    (if m 316 x.toNat = -1 ∨ y < 0 ∨ m 317 x.toNat ≤ y + xfst (fun k => decide ((m 316 x.toNat = -1 ∨ y < 0 ∨ m 317 x.toNat ≤ y + k) ∨ ¬ m 318 (60 * x.toNat + y.toNat + k) = sVal m k)) (nN m) then 100 + xfst (fun k => decide ((m 316 x.toNat = -1 ∨ y < 0 ∨ m 317 x.toNat ≤ y + k) ∨ ¬ m 318 (60 * x.toNat + y.toNat + k) = sVal m k)) (nN m) else xfst (fun k => decide ((m 316 x.toNat = -1 ∨ y < 0 ∨ m 317 x.toNat ≤ y + k) ∨ ¬ m 318 (60 * x.toNat + y.toNat + k) = sVal m k)) (nN m)) else -5) else -12) else -1