/-! A STORE, READ -/
theorem c_stored {d : Nat} {g : xG} {t m : xD} {s : Nat} {n : Nat} (L : xLay g) (hs : s < 3) (hI : Inv m) (hR : Rep t s m) (hn : n < nN m) : xCall (d) 16 [(2, (((18 + 89 * s + 5 * n) : Nat) : Int))] g t (xQ g t (some (0, sSto m n))) := by
  show xOk (d) 16 0 [(2, (((18 + 89 * s + 5 * n) : Nat) : Int))] [] g t _
  have iNn_ := iNn hI
  refine xk_load rfl (p := 1) rfl rfl ?_
  refine xk_getf rfl (p := 4) rfl (xob ((ly_nm L hs (show n < 12 by omega)).1) (by decide)) (v := (0, m 296 n)) (xsl0 rfl (rLoo hR (show n < nN m by omega))) ?_
  refine xk_if rfl (p := 7) rfl (fun c4_1 => ?_) (fun c4_1 => ?_)
  · replace c4_1 : m 296 n = 0 := c4_1
    refine xk_load rfl (p := 15) rfl rfl ?_
    refine xk_getf rfl (p := 18) rfl (xob ((ly_nm L hs (show n < 12 by omega)).1) (by decide)) (v := (0, m 297 n)) (xsl0 rfl (rPac hR (show n < nN m by omega))) ?_
    refine xk_rete rfl (rfl) ?_
    first | exact (if_pos (by assumption)).symm | exact (if_neg (by assumption)).symm
  · replace c4_1 : ¬ (m 296 n = 0) := c4_1
    refine xk_load rfl (p := 8) rfl rfl ?_
    refine xk_getf rfl (p := 11) rfl (xob ((ly_nm L hs (show n < 12 by omega)).1) (by decide)) (v := (0, m 296 n)) (xsl0 rfl (rLoo hR (show n < nN m by omega))) ?_
    refine xk_goto rfl ?_
    refine xk_rete rfl (rfl) ?_
    first | exact (if_pos (by assumption)).symm | exact (if_neg (by assumption)).symm

theorem c_rowFor {d : Nat} {g : xG} {t m : xD} {s : Nat} {n : Nat} {x : Int} (L : xLay g) (hs : s < 3) (hI : Inv m) (hR : Rep t s m) (hn : n < 4) (hk : 0 < m 300 n) : xCall (d) 3 [(2, (((78 + 89 * s + 4 * n) : Nat) : Int)), (0, x)] g t (xQ g t (some (0, sRow m n x))) := by
  show xOk (d) 3 0 [(2, (((78 + 89 * s + 4 * n) : Nat) : Int)), (0, x), (3, 0)] [] g t _
  have iRn_ := iRn hI hn
  refine xk_push rfl (p := 1) rfl ?_
  refine xk_store rfl (p := 2) rfl (by decide) (Nat.le_of_ble_eq_true rfl) (ls' := [(2, (((78 + 89 * s + 4 * n) : Nat) : Int)), (0, x), (0, 0)]) rfl ?_
  have lp1 : ∀ k : Nat, k ≤ nR m n → (∀ i, i < k → ¬ m 303 (12 * n + i) = x) → xOk (d) 3 2 [(2, (((78 + 89 * s + 4 * n) : Nat) : Int)), (0, x), (0, ((k : Nat) : Int))] [] g t (xQ g t (some (0, sRow m n x))) := by
    refine xk_up (nR m n) (fun k hkk ih1  hi1 => ?_)
    refine xk_load rfl (p := 3) rfl rfl ?_
    refine xk_load rfl (p := 4) rfl rfl ?_
    refine xk_getf rfl (p := 7) rfl (xob ((ly_dl L hs (show n < 4 by omega)).1) (by decide)) (v := (0, ((nR m n : Nat) : Int))) (xsl0 rfl ((rRow hR (show n < 4 by omega) (show 0 < m 300 n by omega)).trans (iRn hI (show n < 4 by omega)).1)) ?_
    have iRn_ := iRn hI (show n < 4 by omega)
    refine xk_icmp rfl (p := 10) rfl (fun c7_2 => ?_) (fun c7_2 => ?_)
    · replace c7_2 : ((nR m n : Nat) : Int) ≤ ((k : Nat) : Int) := c7_2
      refine xk_push rfl (p := 29) rfl ?_
      refine xk_rete rfl (rfl) ?_
      first | exact xixf1 (by omega) hi1 (by assumption) | exact xixf0 (by omega) hi1
    · replace c7_2 : ¬ (((nR m n : Nat) : Int) ≤ ((k : Nat) : Int)) := c7_2
      refine xk_load rfl (p := 11) rfl rfl ?_
      refine xk_getf rfl (p := 14) rfl (xob ((ly_dl L hs (show n < 4 by omega)).1) (by decide)) (v := (2, ((((78 + 89 * s + 4 * n) + 1) : Nat) : Int))) (xsl2 rfl ((ly_dl L hs (show n < 4 by omega)).2.2.2.2.1)) ?_
      refine xk_load rfl (p := 15) rfl rfl ?_
      refine xk_ald rfl (p := 16) rfl (v := (0, m 303 (12 * n + k))) ((xal0 ((ly_dl L hs (show n < 4 by omega)).2.1) (show k < 4 by omega)).trans (congrArg (fun z => some (0, z)) (rR1 hR (show n < 4 by omega) (show 0 < m 300 n by omega) (show ((k : Nat) : Int) < m 301 n by omega)))) ?_
      have iRo_ := iRo hI (show n < 4 by omega) (show 0 < m 300 n by omega) (show k < nR m n by omega)
      refine xk_load rfl (p := 17) rfl rfl ?_
      refine xk_icmp rfl (p := 20) rfl (fun c17_3 => ?_) (fun c17_3 => ?_)
      · replace c17_3 : ¬ (m 303 (12 * n + k) = x) := c17_3
        refine xk_inc1 rfl (p := 25) rfl (n := k) rfl (by omega) (ls' := [(2, (((78 + 89 * s + 4 * n) : Nat) : Int)), (0, x), (0, ((k + 1 : Nat) : Int))]) rfl ?_
        refine xk_goto rfl ?_
        exact ih1 (by omega)  (by exact xall_up hi1 (by assumption))
      · replace c17_3 : m 303 (12 * n + k) = x := Decidable.not_not.mp c17_3
        refine xk_load rfl (p := 21) rfl rfl ?_
        refine xk_rete rfl (rfl) ?_
        first | exact xixf1 (by omega) hi1 (by assumption) | exact xixf0 (by omega) hi1
  exact lp1 0 (by omega)  (by intro i h; omega)

theorem c_locks {d : Nat} {g : xG} {t m : xD} {s : Nat} {n : Nat} {x : Int} (L : xLay g) (hs : s < 3) (hI : Inv m) (hR : Rep t s m) (hn : n < 4) : xCall (d + 1) 4 [(2, (((78 + 89 * s + 4 * n) : Nat) : Int)), (0, x)] g t (xQ g t (some (0, if 0 < m 300 n ∧ ¬ m 302 n = 0 ∧ ¬ sRow m n x = -1 then (1 : Int) else 0))) := by
  show xOk (d + 1) 4 0 [(2, (((78 + 89 * s + 4 * n) : Nat) : Int)), (0, x)] [] g t _
  refine xk_load rfl (p := 1) rfl rfl ?_
  refine xk_getf rfl (p := 4) rfl (xob ((ly_dl L hs (show n < 4 by omega)).1) (by decide)) (v := (0, sPha m n)) (xsl0 rfl (rPha hR (show n < 4 by omega))) ?_
  have sPha_ := sPha_c hI (show n < 4 by omega)
  refine xk_push rfl (p := 5) rfl ?_
  refine xk_icmp rfl (p := 8) rfl (fun c5_1 => ?_) (fun c5_1 => ?_)
  · replace c5_1 : sPha m n = 1 := c5_1
    refine xk_load rfl (p := 17) rfl rfl ?_
    refine xk_load rfl (p := 18) rfl rfl ?_
    refine xk_callp rfl (p := 21) rfl (by decide) rfl (Nat.le_of_ble_eq_true rfl) (Nat.le_of_ble_eq_true rfl) (xrv ((ly_dl L hs (show n < 4 by omega)).1) (by decide)) (as := [(2, (((78 + 89 * s + 4 * n) : Nat) : Int)), (0, x)]) (r := []) rfl (v := (0, sRow m n x)) (c_rowFor L hs hI hR (show n < 4 by omega) (by omega)) ?_
    have sRow_ := sRow_rng (m := m) (d := n) (x := x)
    have iRn_ := iRn hI (show n < 4 by omega)
    refine xk_if rfl (p := 24) rfl (fun c21_2 => ?_) (fun c21_2 => ?_)
    · replace c21_2 : sRow m n x < 0 := c21_2
      refine xk_push rfl (p := 29) rfl ?_
      refine xk_rete rfl (rfl) ?_
      exact (if_neg (by omega)).symm
    · replace c21_2 : ¬ (sRow m n x < 0) := c21_2
      refine xk_push rfl (p := 25) rfl ?_
      refine xk_goto rfl ?_
      refine xk_rete rfl (rfl) ?_
      exact (if_pos (by omega)).symm
  · replace c5_1 : ¬ (sPha m n = 1) := c5_1
    refine xk_load rfl (p := 9) rfl rfl ?_
    refine xk_getf rfl (p := 12) rfl (xob ((ly_dl L hs (show n < 4 by omega)).1) (by decide)) (v := (0, sPha m n)) (xsl0 rfl (rPha hR (show n < 4 by omega))) ?_
    have sPha_ := sPha_c hI (show n < 4 by omega)
    refine xk_push rfl (p := 13) rfl ?_
    refine xk_icmp rfl (p := 16) rfl (fun c13_3 => ?_) (fun c13_3 => ?_)
    · replace c13_3 : ¬ (sPha m n = 2) := c13_3
      refine xk_push rfl (p := 29) rfl ?_
      refine xk_rete rfl (rfl) ?_
      exact (if_neg (by omega)).symm
    · replace c13_3 : sPha m n = 2 := Decidable.not_not.mp c13_3
      refine xk_load rfl (p := 17) rfl rfl ?_
      refine xk_load rfl (p := 18) rfl rfl ?_
      refine xk_callp rfl (p := 21) rfl (by decide) rfl (Nat.le_of_ble_eq_true rfl) (Nat.le_of_ble_eq_true rfl) (xrv ((ly_dl L hs (show n < 4 by omega)).1) (by decide)) (as := [(2, (((78 + 89 * s + 4 * n) : Nat) : Int)), (0, x)]) (r := []) rfl (v := (0, sRow m n x)) (c_rowFor L hs hI hR (show n < 4 by omega) (by omega)) ?_
      have sRow_ := sRow_rng (m := m) (d := n) (x := x)
      have iRn_ := iRn hI (show n < 4 by omega)
      refine xk_if rfl (p := 24) rfl (fun c21_4 => ?_) (fun c21_4 => ?_)
      · replace c21_4 : sRow m n x < 0 := c21_4
        refine xk_push rfl (p := 29) rfl ?_
        refine xk_rete rfl (rfl) ?_
        exact (if_neg (by omega)).symm
      · replace c21_4 : ¬ (sRow m n x < 0) := c21_4
        refine xk_push rfl (p := 25) rfl ?_
        refine xk_goto rfl ?_
        refine xk_rete rfl (rfl) ?_
        exact (if_pos (by omega)).symm

def cAsk (m : xD) (n r : Nat) (x : Int) : Int :=
  if m 303 (12 * n + 4 + r) = (-1) then (if (m 300 n - 1) = 1 then 1 else (if (m 300 n - 1) = 2 then (if m 303 (12 * n + 8 + r) = 0 then 1 else (if m 303 (12 * n + 8 + r) ≤ x then 0 else 1)) else (if (m 300 n - 1) = 3 then (if m 303 (12 * n + 8 + r) = 0 then 0 else 1) else 1))) else (if m 303 (12 * n + 4 + r) = x then (if (m 300 n - 1) = 1 then 1 else (if (m 300 n - 1) = 2 then (if m 303 (12 * n + 8 + r) = 0 then 1 else (if m 303 (12 * n + 8 + r) ≤ x then 0 else 1)) else (if (m 300 n - 1) = 3 then (if m 303 (12 * n + 8 + r) = 0 then 0 else 1) else 1))) else (if (m 300 n - 1) = 1 then 1 else (if (m 300 n - 1) = 2 then 0 else (if (m 300 n - 1) = 3 then (if m 303 (12 * n + 8 + r) = 0 then 0 else 1) else 0))))
theorem c_isAskedFor {d : Nat} {g : xG} {t m : xD} {s : Nat} {n r : Nat} {x : Int} (L : xLay g) (hs : s < 3) (hI : Inv m) (hR : Rep t s m) (hn : n < 4) (hk : 0 < m 300 n) (hr : r < nR m n) : xCall (d) 5 [(2, (((78 + 89 * s + 4 * n) : Nat) : Int)), (0, ((r : Nat) : Int)), (0, x)] g t (xQ g t (some (0, cAsk m  n r  x ))) := by
  show xOk (d) 5 0 [(2, (((78 + 89 * s + 4 * n) : Nat) : Int)), (0, ((r : Nat) : Int)), (0, x), (3, 0)] [] g t _
  have iRn_ := iRn hI hn
  have iD_ := iD hI hn
  refine xk_load rfl (p := 1) rfl rfl ?_
  refine xk_getf rfl (p := 4) rfl (xob ((ly_dl L hs (show n < 4 by omega)).1) (by decide)) (v := (2, ((((78 + 89 * s + 4 * n) + 2) : Nat) : Int))) (xsl2 rfl ((ly_dl L hs (show n < 4 by omega)).2.2.2.2.2.1)) ?_
  refine xk_load rfl (p := 5) rfl rfl ?_
  refine xk_ald rfl (p := 6) rfl (v := (0, m 303 (12 * n + 4 + r))) ((xal0 ((ly_dl L hs (show n < 4 by omega)).2.2.1) (show r < 4 by omega)).trans (congrArg (fun z => some (0, z)) (rR2 hR (show n < 4 by omega) (show 0 < m 300 n by omega) (show ((r : Nat) : Int) < m 301 n by omega)))) ?_
  refine xk_push rfl (p := 7) rfl ?_
  refine xk_icmp rfl (p := 10) rfl (fun c7_1 => ?_) (fun c7_1 => ?_)
  · replace c7_1 : m 303 (12 * n + 4 + r) = (-1) := c7_1
    refine xk_push rfl (p := 21) rfl ?_
    refine xk_goto rfl ?_
    refine xk_store rfl (p := 26) rfl (by decide) (Nat.le_of_ble_eq_true rfl) (ls' := [(2, (((78 + 89 * s + 4 * n) : Nat) : Int)), (0, ((r : Nat) : Int)), (0, x), (0, 1)]) rfl ?_
    refine xk_load rfl (p := 27) rfl rfl ?_
    refine xk_getf rfl (p := 30) rfl (xob ((ly_dl L hs (show n < 4 by omega)).1) (by decide)) (v := (0, (m 300 n - 1))) (xsl0 rfl (rKnd hR (show n < 4 by omega) (show 0 < m 300 n by omega))) ?_
    by_cases c30_2 : (m 300 n - 1) = 1
    · refine xk_switch rfl (w := 56) (by rw [c30_2]; rfl) ?_
      refine xk_push rfl (p := 57) rfl ?_
      refine xk_rete rfl (rfl) ?_
      exact ((if_pos c7_1).trans ((if_pos c30_2))).symm
    by_cases c30_3 : (m 300 n - 1) = 2
    · refine xk_switch rfl (w := 58) (by rw [c30_3]; rfl) ?_
      refine xk_load rfl (p := 59) rfl rfl ?_
      refine xk_if rfl (p := 62) rfl (fun c59_4 => absurd c59_4 (show ¬ ((1 : Int) = (0 : Int)) by decide)) (fun c59_4 => ?_)
      refine xk_load rfl (p := 63) rfl rfl ?_
      refine xk_getf rfl (p := 66) rfl (xob ((ly_dl L hs (show n < 4 by omega)).1) (by decide)) (v := (2, ((((78 + 89 * s + 4 * n) + 3) : Nat) : Int))) (xsl2 rfl ((ly_dl L hs (show n < 4 by omega)).2.2.2.2.2.2)) ?_
      refine xk_load rfl (p := 67) rfl rfl ?_
      refine xk_ald rfl (p := 68) rfl (v := (0, m 303 (12 * n + 8 + r))) ((xal0 ((ly_dl L hs (show n < 4 by omega)).2.2.2.1) (show r < 4 by omega)).trans (congrArg (fun z => some (0, z)) (rR3 hR (show n < 4 by omega) (show 0 < m 300 n by omega) (show ((r : Nat) : Int) < m 301 n by omega)))) ?_
      refine xk_if rfl (p := 71) rfl (fun c68_5 => ?_) (fun c68_5 => ?_)
      · replace c68_5 : m 303 (12 * n + 8 + r) = 0 := c68_5
        refine xk_push rfl (p := 82) rfl ?_
        refine xk_goto rfl ?_
        refine xk_rete rfl (rfl) ?_
        exact ((if_pos c7_1).trans ((if_neg c30_2).trans ((if_pos c30_3).trans ((if_pos c68_5))))).symm
      · replace c68_5 : ¬ (m 303 (12 * n + 8 + r) = 0) := c68_5
        refine xk_load rfl (p := 72) rfl rfl ?_
        refine xk_getf rfl (p := 75) rfl (xob ((ly_dl L hs (show n < 4 by omega)).1) (by decide)) (v := (2, ((((78 + 89 * s + 4 * n) + 3) : Nat) : Int))) (xsl2 rfl ((ly_dl L hs (show n < 4 by omega)).2.2.2.2.2.2)) ?_
        refine xk_load rfl (p := 76) rfl rfl ?_
        refine xk_ald rfl (p := 77) rfl (v := (0, m 303 (12 * n + 8 + r))) ((xal0 ((ly_dl L hs (show n < 4 by omega)).2.2.2.1) (show r < 4 by omega)).trans (congrArg (fun z => some (0, z)) (rR3 hR (show n < 4 by omega) (show 0 < m 300 n by omega) (show ((r : Nat) : Int) < m 301 n by omega)))) ?_
        refine xk_load rfl (p := 78) rfl rfl ?_
        refine xk_icmp rfl (p := 81) rfl (fun c78_6 => ?_) (fun c78_6 => ?_)
        · replace c78_6 : m 303 (12 * n + 8 + r) ≤ x := c78_6
          refine xk_push rfl (p := 86) rfl ?_
          refine xk_rete rfl (rfl) ?_
          exact ((if_pos c7_1).trans ((if_neg c30_2).trans ((if_pos c30_3).trans ((if_neg c68_5).trans ((if_pos c78_6)))))).symm
        · replace c78_6 : ¬ (m 303 (12 * n + 8 + r) ≤ x) := c78_6
          refine xk_push rfl (p := 82) rfl ?_
          refine xk_goto rfl ?_
          refine xk_rete rfl (rfl) ?_
          exact ((if_pos c7_1).trans ((if_neg c30_2).trans ((if_pos c30_3).trans ((if_neg c68_5).trans ((if_neg c78_6)))))).symm
    by_cases c30_7 : (m 300 n - 1) = 3
    · refine xk_switch rfl (w := 87) (by rw [c30_7]; rfl) ?_
      refine xk_load rfl (p := 88) rfl rfl ?_
      refine xk_getf rfl (p := 91) rfl (xob ((ly_dl L hs (show n < 4 by omega)).1) (by decide)) (v := (2, ((((78 + 89 * s + 4 * n) + 3) : Nat) : Int))) (xsl2 rfl ((ly_dl L hs (show n < 4 by omega)).2.2.2.2.2.2)) ?_
      refine xk_load rfl (p := 92) rfl rfl ?_
      refine xk_ald rfl (p := 93) rfl (v := (0, m 303 (12 * n + 8 + r))) ((xal0 ((ly_dl L hs (show n < 4 by omega)).2.2.2.1) (show r < 4 by omega)).trans (congrArg (fun z => some (0, z)) (rR3 hR (show n < 4 by omega) (show 0 < m 300 n by omega) (show ((r : Nat) : Int) < m 301 n by omega)))) ?_
      refine xk_if rfl (p := 96) rfl (fun c93_8 => ?_) (fun c93_8 => ?_)
      · replace c93_8 : m 303 (12 * n + 8 + r) = 0 := c93_8
        refine xk_push rfl (p := 101) rfl ?_
        refine xk_rete rfl (rfl) ?_
        exact ((if_pos c7_1).trans ((if_neg c30_2).trans ((if_neg c30_3).trans ((if_pos c30_7).trans ((if_pos c93_8)))))).symm
      · replace c93_8 : ¬ (m 303 (12 * n + 8 + r) = 0) := c93_8
        refine xk_push rfl (p := 97) rfl ?_
        refine xk_goto rfl ?_
        refine xk_rete rfl (rfl) ?_
        exact ((if_pos c7_1).trans ((if_neg c30_2).trans ((if_neg c30_3).trans ((if_pos c30_7).trans ((if_neg c93_8)))))).symm
    refine xk_switch rfl (w := 102) (if_pos (by first | omega | (simp only [List.length]; omega))) ?_
    refine xk_load rfl (p := 103) rfl rfl ?_
    refine xk_rete rfl (rfl) ?_
    exact ((if_pos c7_1).trans ((if_neg c30_2).trans ((if_neg c30_3).trans ((if_neg c30_7))))).symm
  · replace c7_1 : ¬ (m 303 (12 * n + 4 + r) = (-1)) := c7_1
    refine xk_load rfl (p := 11) rfl rfl ?_
    refine xk_getf rfl (p := 14) rfl (xob ((ly_dl L hs (show n < 4 by omega)).1) (by decide)) (v := (2, ((((78 + 89 * s + 4 * n) + 2) : Nat) : Int))) (xsl2 rfl ((ly_dl L hs (show n < 4 by omega)).2.2.2.2.2.1)) ?_
    refine xk_load rfl (p := 15) rfl rfl ?_
    refine xk_ald rfl (p := 16) rfl (v := (0, m 303 (12 * n + 4 + r))) ((xal0 ((ly_dl L hs (show n < 4 by omega)).2.2.1) (show r < 4 by omega)).trans (congrArg (fun z => some (0, z)) (rR2 hR (show n < 4 by omega) (show 0 < m 300 n by omega) (show ((r : Nat) : Int) < m 301 n by omega)))) ?_
    refine xk_load rfl (p := 17) rfl rfl ?_
    refine xk_icmp rfl (p := 20) rfl (fun c17_9 => ?_) (fun c17_9 => ?_)
    · replace c17_9 : ¬ (m 303 (12 * n + 4 + r) = x) := c17_9
      refine xk_push rfl (p := 25) rfl ?_
      refine xk_store rfl (p := 26) rfl (by decide) (Nat.le_of_ble_eq_true rfl) (ls' := [(2, (((78 + 89 * s + 4 * n) : Nat) : Int)), (0, ((r : Nat) : Int)), (0, x), (0, 0)]) rfl ?_
      refine xk_load rfl (p := 27) rfl rfl ?_
      refine xk_getf rfl (p := 30) rfl (xob ((ly_dl L hs (show n < 4 by omega)).1) (by decide)) (v := (0, (m 300 n - 1))) (xsl0 rfl (rKnd hR (show n < 4 by omega) (show 0 < m 300 n by omega))) ?_
      by_cases c30_10 : (m 300 n - 1) = 1
      · refine xk_switch rfl (w := 56) (by rw [c30_10]; rfl) ?_
        refine xk_push rfl (p := 57) rfl ?_
        refine xk_rete rfl (rfl) ?_
        exact ((if_neg c7_1).trans ((if_neg c17_9).trans ((if_pos c30_10)))).symm
      by_cases c30_11 : (m 300 n - 1) = 2
      · refine xk_switch rfl (w := 58) (by rw [c30_11]; rfl) ?_
        refine xk_load rfl (p := 59) rfl rfl ?_
        refine xk_if rfl (p := 62) rfl (fun c59_12 => ?_) (fun c59_12 => absurd (show (0 : Int) = (0 : Int) by decide) c59_12)
        refine xk_push rfl (p := 86) rfl ?_
        refine xk_rete rfl (rfl) ?_
        exact ((if_neg c7_1).trans ((if_neg c17_9).trans ((if_neg c30_10).trans ((if_pos c30_11))))).symm
      by_cases c30_13 : (m 300 n - 1) = 3
      · refine xk_switch rfl (w := 87) (by rw [c30_13]; rfl) ?_
        refine xk_load rfl (p := 88) rfl rfl ?_
        refine xk_getf rfl (p := 91) rfl (xob ((ly_dl L hs (show n < 4 by omega)).1) (by decide)) (v := (2, ((((78 + 89 * s + 4 * n) + 3) : Nat) : Int))) (xsl2 rfl ((ly_dl L hs (show n < 4 by omega)).2.2.2.2.2.2)) ?_
        refine xk_load rfl (p := 92) rfl rfl ?_
        refine xk_ald rfl (p := 93) rfl (v := (0, m 303 (12 * n + 8 + r))) ((xal0 ((ly_dl L hs (show n < 4 by omega)).2.2.2.1) (show r < 4 by omega)).trans (congrArg (fun z => some (0, z)) (rR3 hR (show n < 4 by omega) (show 0 < m 300 n by omega) (show ((r : Nat) : Int) < m 301 n by omega)))) ?_
        refine xk_if rfl (p := 96) rfl (fun c93_14 => ?_) (fun c93_14 => ?_)
        · replace c93_14 : m 303 (12 * n + 8 + r) = 0 := c93_14
          refine xk_push rfl (p := 101) rfl ?_
          refine xk_rete rfl (rfl) ?_
          exact ((if_neg c7_1).trans ((if_neg c17_9).trans ((if_neg c30_10).trans ((if_neg c30_11).trans ((if_pos c30_13).trans ((if_pos c93_14))))))).symm
        · replace c93_14 : ¬ (m 303 (12 * n + 8 + r) = 0) := c93_14
          refine xk_push rfl (p := 97) rfl ?_
          refine xk_goto rfl ?_
          refine xk_rete rfl (rfl) ?_
          exact ((if_neg c7_1).trans ((if_neg c17_9).trans ((if_neg c30_10).trans ((if_neg c30_11).trans ((if_pos c30_13).trans ((if_neg c93_14))))))).symm
      refine xk_switch rfl (w := 102) (if_pos (by first | omega | (simp only [List.length]; omega))) ?_
      refine xk_load rfl (p := 103) rfl rfl ?_
      refine xk_rete rfl (rfl) ?_
      exact ((if_neg c7_1).trans ((if_neg c17_9).trans ((if_neg c30_10).trans ((if_neg c30_11).trans ((if_neg c30_13)))))).symm
    · replace c17_9 : m 303 (12 * n + 4 + r) = x := Decidable.not_not.mp c17_9
      refine xk_push rfl (p := 21) rfl ?_
      refine xk_goto rfl ?_
      refine xk_store rfl (p := 26) rfl (by decide) (Nat.le_of_ble_eq_true rfl) (ls' := [(2, (((78 + 89 * s + 4 * n) : Nat) : Int)), (0, ((r : Nat) : Int)), (0, x), (0, 1)]) rfl ?_
      refine xk_load rfl (p := 27) rfl rfl ?_
      refine xk_getf rfl (p := 30) rfl (xob ((ly_dl L hs (show n < 4 by omega)).1) (by decide)) (v := (0, (m 300 n - 1))) (xsl0 rfl (rKnd hR (show n < 4 by omega) (show 0 < m 300 n by omega))) ?_
      by_cases c30_15 : (m 300 n - 1) = 1
      · refine xk_switch rfl (w := 56) (by rw [c30_15]; rfl) ?_
        refine xk_push rfl (p := 57) rfl ?_
        refine xk_rete rfl (rfl) ?_
        exact ((if_neg c7_1).trans ((if_pos c17_9).trans ((if_pos c30_15)))).symm
      by_cases c30_16 : (m 300 n - 1) = 2
      · refine xk_switch rfl (w := 58) (by rw [c30_16]; rfl) ?_
        refine xk_load rfl (p := 59) rfl rfl ?_
        refine xk_if rfl (p := 62) rfl (fun c59_17 => absurd c59_17 (show ¬ ((1 : Int) = (0 : Int)) by decide)) (fun c59_17 => ?_)
        refine xk_load rfl (p := 63) rfl rfl ?_
        refine xk_getf rfl (p := 66) rfl (xob ((ly_dl L hs (show n < 4 by omega)).1) (by decide)) (v := (2, ((((78 + 89 * s + 4 * n) + 3) : Nat) : Int))) (xsl2 rfl ((ly_dl L hs (show n < 4 by omega)).2.2.2.2.2.2)) ?_
        refine xk_load rfl (p := 67) rfl rfl ?_
        refine xk_ald rfl (p := 68) rfl (v := (0, m 303 (12 * n + 8 + r))) ((xal0 ((ly_dl L hs (show n < 4 by omega)).2.2.2.1) (show r < 4 by omega)).trans (congrArg (fun z => some (0, z)) (rR3 hR (show n < 4 by omega) (show 0 < m 300 n by omega) (show ((r : Nat) : Int) < m 301 n by omega)))) ?_
        refine xk_if rfl (p := 71) rfl (fun c68_18 => ?_) (fun c68_18 => ?_)
        · replace c68_18 : m 303 (12 * n + 8 + r) = 0 := c68_18
          refine xk_push rfl (p := 82) rfl ?_
          refine xk_goto rfl ?_
          refine xk_rete rfl (rfl) ?_
          exact ((if_neg c7_1).trans ((if_pos c17_9).trans ((if_neg c30_15).trans ((if_pos c30_16).trans ((if_pos c68_18)))))).symm
        · replace c68_18 : ¬ (m 303 (12 * n + 8 + r) = 0) := c68_18
          refine xk_load rfl (p := 72) rfl rfl ?_
          refine xk_getf rfl (p := 75) rfl (xob ((ly_dl L hs (show n < 4 by omega)).1) (by decide)) (v := (2, ((((78 + 89 * s + 4 * n) + 3) : Nat) : Int))) (xsl2 rfl ((ly_dl L hs (show n < 4 by omega)).2.2.2.2.2.2)) ?_
          refine xk_load rfl (p := 76) rfl rfl ?_
          refine xk_ald rfl (p := 77) rfl (v := (0, m 303 (12 * n + 8 + r))) ((xal0 ((ly_dl L hs (show n < 4 by omega)).2.2.2.1) (show r < 4 by omega)).trans (congrArg (fun z => some (0, z)) (rR3 hR (show n < 4 by omega) (show 0 < m 300 n by omega) (show ((r : Nat) : Int) < m 301 n by omega)))) ?_
          refine xk_load rfl (p := 78) rfl rfl ?_
          refine xk_icmp rfl (p := 81) rfl (fun c78_19 => ?_) (fun c78_19 => ?_)
          · replace c78_19 : m 303 (12 * n + 8 + r) ≤ x := c78_19
            refine xk_push rfl (p := 86) rfl ?_
            refine xk_rete rfl (rfl) ?_
            exact ((if_neg c7_1).trans ((if_pos c17_9).trans ((if_neg c30_15).trans ((if_pos c30_16).trans ((if_neg c68_18).trans ((if_pos c78_19))))))).symm
          · replace c78_19 : ¬ (m 303 (12 * n + 8 + r) ≤ x) := c78_19
            refine xk_push rfl (p := 82) rfl ?_
            refine xk_goto rfl ?_
            refine xk_rete rfl (rfl) ?_
            exact ((if_neg c7_1).trans ((if_pos c17_9).trans ((if_neg c30_15).trans ((if_pos c30_16).trans ((if_neg c68_18).trans ((if_neg c78_19))))))).symm
      by_cases c30_20 : (m 300 n - 1) = 3
      · refine xk_switch rfl (w := 87) (by rw [c30_20]; rfl) ?_
        refine xk_load rfl (p := 88) rfl rfl ?_
        refine xk_getf rfl (p := 91) rfl (xob ((ly_dl L hs (show n < 4 by omega)).1) (by decide)) (v := (2, ((((78 + 89 * s + 4 * n) + 3) : Nat) : Int))) (xsl2 rfl ((ly_dl L hs (show n < 4 by omega)).2.2.2.2.2.2)) ?_
        refine xk_load rfl (p := 92) rfl rfl ?_
        refine xk_ald rfl (p := 93) rfl (v := (0, m 303 (12 * n + 8 + r))) ((xal0 ((ly_dl L hs (show n < 4 by omega)).2.2.2.1) (show r < 4 by omega)).trans (congrArg (fun z => some (0, z)) (rR3 hR (show n < 4 by omega) (show 0 < m 300 n by omega) (show ((r : Nat) : Int) < m 301 n by omega)))) ?_
        refine xk_if rfl (p := 96) rfl (fun c93_21 => ?_) (fun c93_21 => ?_)
        · replace c93_21 : m 303 (12 * n + 8 + r) = 0 := c93_21
          refine xk_push rfl (p := 101) rfl ?_
          refine xk_rete rfl (rfl) ?_
          exact ((if_neg c7_1).trans ((if_pos c17_9).trans ((if_neg c30_15).trans ((if_neg c30_16).trans ((if_pos c30_20).trans ((if_pos c93_21))))))).symm
        · replace c93_21 : ¬ (m 303 (12 * n + 8 + r) = 0) := c93_21
          refine xk_push rfl (p := 97) rfl ?_
          refine xk_goto rfl ?_
          refine xk_rete rfl (rfl) ?_
          exact ((if_neg c7_1).trans ((if_pos c17_9).trans ((if_neg c30_15).trans ((if_neg c30_16).trans ((if_pos c30_20).trans ((if_neg c93_21))))))).symm
      refine xk_switch rfl (w := 102) (if_pos (by first | omega | (simp only [List.length]; omega))) ?_
      refine xk_load rfl (p := 103) rfl rfl ?_
      refine xk_rete rfl (rfl) ?_
      exact ((if_neg c7_1).trans ((if_pos c17_9).trans ((if_neg c30_15).trans ((if_neg c30_16).trans ((if_neg c30_20)))))).symm

theorem cAsk_eq {m : xD} (hI : Inv m) {n r : Nat} {x : Int} (hn : n < 4) (hk : 0 < m 300 n) : cAsk m n r x = sAsk m n r x := by
  have iD_ := iD hI hn
  unfold cAsk sAsk
  by_cases a : m 303 (12 * n + 4 + r) = -1 <;> by_cases b : m 303 (12 * n + 4 + r) = x <;> by_cases c : m 303 (12 * n + 8 + r) = 0 <;> by_cases e : m 303 (12 * n + 8 + r) ≤ x <;> rcases (by omega : m 300 n = 1 ∨ m 300 n = 2 ∨ m 300 n = 3 ∨ m 300 n = 4) with h | h | h | h <;> simp [a, b, c, e, h] <;> omega
theorem c_committing {d : Nat} {g : xG} {t m : xD} {s : Nat}  (L : xLay g) (hs : s < 3) (hI : Inv m) (hR : Rep t s m)  : xCall (d) 45 [(2, (((5 + 89 * s) : Nat) : Int))] g t (xQ g t (some (0, sCom m))) := by
  show xOk (d) 45 0 [(2, (((5 + 89 * s) : Nat) : Int)), (3, 0)] [] g t _
  refine xk_push rfl (p := 1) rfl ?_
  refine xk_store rfl (p := 2) rfl (by decide) (Nat.le_of_ble_eq_true rfl) (ls' := [(2, (((5 + 89 * s) : Nat) : Int)), (0, 0)]) rfl ?_
  have lp1 : ∀ k : Nat, k ≤ 4 → (∀ i, i < k → ¬ (0 < m 300 i ∧ m 302 i = 2)) → xOk (d) 45 2 [(2, (((5 + 89 * s) : Nat) : Int)), (0, ((k : Nat) : Int))] [] g t (xQ g t (some (0, sCom m))) := by
    refine xk_up 4 (fun k hkk ih1  hi1 => ?_)
    refine xk_load rfl (p := 3) rfl rfl ?_
    refine xk_push rfl (p := 4) rfl ?_
    refine xk_icmp rfl (p := 7) rfl (fun c4_2 => ?_) (fun c4_2 => ?_)
    · replace c4_2 : 4 ≤ ((k : Nat) : Int) := c4_2
      refine xk_push rfl (p := 29) rfl ?_
      refine xk_rete rfl (rfl) ?_
      exact xixf0 (by omega) hi1
    · replace c4_2 : ¬ (4 ≤ ((k : Nat) : Int)) := c4_2
      refine xk_load rfl (p := 8) rfl rfl ?_
      refine xk_getf rfl (p := 11) rfl (xob (ly_st L hs) (by decide)) (v := (2, (((7 + 89 * s) : Nat) : Int))) (xsl2 rfl (ly_s1 L hs)) ?_
      refine xk_load rfl (p := 12) rfl rfl ?_
      refine xk_ald rfl (p := 13) rfl (v := (2, (((78 + 89 * s + 4 * k) : Nat) : Int))) (xal2 (ly_sd L hs) (by decide) (show k < 4 by omega) (ly_de L hs (show k < 4 by omega))) ?_
      refine xk_getf rfl (p := 16) rfl (xob ((ly_dl L hs (show k < 4 by omega)).1) (by decide)) (v := (0, sPha m k)) (xsl0 rfl (rPha hR (show k < 4 by omega))) ?_
      have sPha_ := sPha_c hI (show k < 4 by omega)
      refine xk_push rfl (p := 17) rfl ?_
      refine xk_icmp rfl (p := 20) rfl (fun c17_3 => ?_) (fun c17_3 => ?_)
      · replace c17_3 : ¬ (sPha m k = 2) := c17_3
        refine xk_inc1 rfl (p := 25) rfl (n := k) rfl (by omega) (ls' := [(2, (((5 + 89 * s) : Nat) : Int)), (0, ((k + 1 : Nat) : Int))]) rfl ?_
        refine xk_goto rfl ?_
        exact ih1 (by omega)  (by exact xall_up hi1 (by omega))
      · replace c17_3 : sPha m k = 2 := Decidable.not_not.mp c17_3
        refine xk_load rfl (p := 21) rfl rfl ?_
        refine xk_rete rfl (rfl) ?_
        exact xixf1 (by omega) hi1 (by omega)
  exact lp1 0 (by omega)  (by intro i h; omega)

def cVal (m : xD) (n : Nat) : Int :=
  if sRec m = 0 then (sSto m n) else (if sCom m < 0 then (sSto m n) else (if sRow m ((sCom m).toNat) ((n : Nat) : Int) < 0 then (sSto m n) else (m 303 (12 * ((sCom m).toNat) + 8 + ((sRow m ((sCom m).toNat) ((n : Nat) : Int)).toNat)))))
theorem c_valueOf {d : Nat} {g : xG} {t m : xD} {s : Nat} {n : Nat} (L : xLay g) (hs : s < 3) (hI : Inv m) (hR : Rep t s m) (hn : n < nN m) : xCall (d + 1) 40 [(2, (((5 + 89 * s) : Nat) : Int)), (0, ((n : Nat) : Int))] g t (xQ g t (some (0, cVal m  n ))) := by
  show xOk (d + 1) 40 0 [(2, (((5 + 89 * s) : Nat) : Int)), (0, ((n : Nat) : Int)), (3, 0), (3, 0)] [] g t _
  have iNn_ := iNn hI
  refine xk_load rfl (p := 1) rfl rfl ?_
  refine xk_getf rfl (p := 4) rfl (xob (ly_st L hs) (by decide)) (v := (0, sRec m)) (xsl0 rfl (rRec hR)) ?_
  refine xk_if rfl (p := 7) rfl (fun c4_1 => ?_) (fun c4_1 => ?_)
  · replace c4_1 : sRec m = 0 := c4_1
    refine xk_push rfl (p := 15) rfl ?_
    refine xk_store rfl (p := 16) rfl (by decide) (Nat.le_of_ble_eq_true rfl) (ls' := [(2, (((5 + 89 * s) : Nat) : Int)), (0, ((n : Nat) : Int)), (0, (-1)), (3, 0)]) rfl ?_
    refine xk_load rfl (p := 17) rfl rfl ?_
    refine xk_if rfl (p := 20) rfl (fun c17_2 => ?_) (fun c17_2 => absurd (show ((-1) : Int) < (0 : Int) by decide) c17_2)
    refine xk_push rfl (p := 34) rfl ?_
    refine xk_store rfl (p := 35) rfl (by decide) (Nat.le_of_ble_eq_true rfl) (ls' := [(2, (((5 + 89 * s) : Nat) : Int)), (0, ((n : Nat) : Int)), (0, (-1)), (0, (-1))]) rfl ?_
    refine xk_load rfl (p := 36) rfl rfl ?_
    refine xk_if rfl (p := 39) rfl (fun c36_3 => ?_) (fun c36_3 => absurd (show ((-1) : Int) < (0 : Int) by decide) c36_3)
    refine xk_load rfl (p := 54) rfl rfl ?_
    refine xk_getf rfl (p := 57) rfl (xob (ly_st L hs) (by decide)) (v := (2, (((6 + 89 * s) : Nat) : Int))) (xsl2 rfl (ly_s0 L hs)) ?_
    refine xk_load rfl (p := 58) rfl rfl ?_
    refine xk_ald rfl (p := 59) rfl (v := (2, (((18 + 89 * s + 5 * n) : Nat) : Int))) (xal2 (ly_sn L hs) (by decide) (show n < 12 by omega) (ly_ne L hs (show n < 12 by omega))) ?_
    refine xk_callp rfl (p := 62) rfl (by decide) rfl (Nat.le_of_ble_eq_true rfl) (Nat.le_of_ble_eq_true rfl) (xrv ((ly_nm L hs (show n < 12 by omega)).1) (by decide)) (as := [(2, (((18 + 89 * s + 5 * n) : Nat) : Int))]) (r := []) rfl (v := (0, sSto m n)) (c_stored L hs hI hR (show n < nN m by omega)) ?_
    refine xk_rete rfl (rfl) ?_
    exact ((if_pos c4_1)).symm
  · replace c4_1 : ¬ (sRec m = 0) := c4_1
    refine xk_load rfl (p := 8) rfl rfl ?_
    refine xk_callp rfl (p := 11) rfl (by decide) rfl (Nat.le_of_ble_eq_true rfl) (Nat.le_of_ble_eq_true rfl) (xrv (ly_st L hs) (by decide)) (as := [(2, (((5 + 89 * s) : Nat) : Int))]) (r := []) rfl (v := (0, sCom m)) (c_committing L hs hI hR) ?_
    have sCom_ := sCom_rng (m := m)
    have sCat_ := sCom_at (m := m)
    refine xk_goto rfl ?_
    refine xk_store rfl (p := 16) rfl (by decide) (Nat.le_of_ble_eq_true rfl) (ls' := [(2, (((5 + 89 * s) : Nat) : Int)), (0, ((n : Nat) : Int)), (0, sCom m), (3, 0)]) rfl ?_
    refine xk_load rfl (p := 17) rfl rfl ?_
    refine xk_if rfl (p := 20) rfl (fun c17_4 => ?_) (fun c17_4 => ?_)
    · replace c17_4 : sCom m < 0 := c17_4
      refine xk_push rfl (p := 34) rfl ?_
      refine xk_store rfl (p := 35) rfl (by decide) (Nat.le_of_ble_eq_true rfl) (ls' := [(2, (((5 + 89 * s) : Nat) : Int)), (0, ((n : Nat) : Int)), (0, sCom m), (0, (-1))]) rfl ?_
      refine xk_load rfl (p := 36) rfl rfl ?_
      refine xk_if rfl (p := 39) rfl (fun c36_5 => ?_) (fun c36_5 => absurd (show ((-1) : Int) < (0 : Int) by decide) c36_5)
      refine xk_load rfl (p := 54) rfl rfl ?_
      refine xk_getf rfl (p := 57) rfl (xob (ly_st L hs) (by decide)) (v := (2, (((6 + 89 * s) : Nat) : Int))) (xsl2 rfl (ly_s0 L hs)) ?_
      refine xk_load rfl (p := 58) rfl rfl ?_
      refine xk_ald rfl (p := 59) rfl (v := (2, (((18 + 89 * s + 5 * n) : Nat) : Int))) (xal2 (ly_sn L hs) (by decide) (show n < 12 by omega) (ly_ne L hs (show n < 12 by omega))) ?_
      refine xk_callp rfl (p := 62) rfl (by decide) rfl (Nat.le_of_ble_eq_true rfl) (Nat.le_of_ble_eq_true rfl) (xrv ((ly_nm L hs (show n < 12 by omega)).1) (by decide)) (as := [(2, (((18 + 89 * s + 5 * n) : Nat) : Int))]) (r := []) rfl (v := (0, sSto m n)) (c_stored L hs hI hR (show n < nN m by omega)) ?_
      refine xk_rete rfl (rfl) ?_
      exact ((if_neg c4_1).trans ((if_pos c17_4))).symm
    · replace c17_4 : ¬ (sCom m < 0) := c17_4
      refine xk_load rfl (p := 21) rfl rfl ?_
      refine xk_getf rfl (p := 24) rfl (xob (ly_st L hs) (by decide)) (v := (2, (((7 + 89 * s) : Nat) : Int))) (xsl2 rfl (ly_s1 L hs)) ?_
      refine xk_load rfl (p := 25) rfl rfl ?_
      refine xk_aldi rfl (p := 26) rfl (show 0 ≤ sCom m by omega) (v := (2, (((78 + 89 * s + 4 * ((sCom m).toNat)) : Nat) : Int))) (xal2 (ly_sd L hs) (by decide) (show (sCom m).toNat < 4 by omega) (ly_de L hs (show (sCom m).toNat < 4 by omega))) ?_
      refine xk_load rfl (p := 27) rfl rfl ?_
      refine xk_callp rfl (p := 30) rfl (by decide) rfl (Nat.le_of_ble_eq_true rfl) (Nat.le_of_ble_eq_true rfl) (xrv ((ly_dl L hs (show (sCom m).toNat < 4 by omega)).1) (by decide)) (as := [(2, (((78 + 89 * s + 4 * ((sCom m).toNat)) : Nat) : Int)), (0, ((n : Nat) : Int))]) (r := []) rfl (v := (0, sRow m ((sCom m).toNat) ((n : Nat) : Int))) (c_rowFor L hs hI hR (show (sCom m).toNat < 4 by omega) (by omega)) ?_
      have sRow_ := sRow_rng (m := m) (d := (sCom m).toNat) (x := ((n : Nat) : Int))
      have iRn_ := iRn hI (show (sCom m).toNat < 4 by omega)
      refine xk_goto rfl ?_
      refine xk_store rfl (p := 35) rfl (by decide) (Nat.le_of_ble_eq_true rfl) (ls' := [(2, (((5 + 89 * s) : Nat) : Int)), (0, ((n : Nat) : Int)), (0, sCom m), (0, sRow m ((sCom m).toNat) ((n : Nat) : Int))]) rfl ?_
      refine xk_load rfl (p := 36) rfl rfl ?_
      refine xk_if rfl (p := 39) rfl (fun c36_6 => ?_) (fun c36_6 => ?_)
      · replace c36_6 : sRow m ((sCom m).toNat) ((n : Nat) : Int) < 0 := c36_6
        refine xk_load rfl (p := 54) rfl rfl ?_
        refine xk_getf rfl (p := 57) rfl (xob (ly_st L hs) (by decide)) (v := (2, (((6 + 89 * s) : Nat) : Int))) (xsl2 rfl (ly_s0 L hs)) ?_
        refine xk_load rfl (p := 58) rfl rfl ?_
        refine xk_ald rfl (p := 59) rfl (v := (2, (((18 + 89 * s + 5 * n) : Nat) : Int))) (xal2 (ly_sn L hs) (by decide) (show n < 12 by omega) (ly_ne L hs (show n < 12 by omega))) ?_
        refine xk_callp rfl (p := 62) rfl (by decide) rfl (Nat.le_of_ble_eq_true rfl) (Nat.le_of_ble_eq_true rfl) (xrv ((ly_nm L hs (show n < 12 by omega)).1) (by decide)) (as := [(2, (((18 + 89 * s + 5 * n) : Nat) : Int))]) (r := []) rfl (v := (0, sSto m n)) (c_stored L hs hI hR (show n < nN m by omega)) ?_
        refine xk_rete rfl (rfl) ?_
        exact ((if_neg c4_1).trans ((if_neg c17_4).trans ((if_pos c36_6)))).symm
      · replace c36_6 : ¬ (sRow m ((sCom m).toNat) ((n : Nat) : Int) < 0) := c36_6
        refine xk_load rfl (p := 40) rfl rfl ?_
        refine xk_getf rfl (p := 43) rfl (xob (ly_st L hs) (by decide)) (v := (2, (((7 + 89 * s) : Nat) : Int))) (xsl2 rfl (ly_s1 L hs)) ?_
        refine xk_load rfl (p := 44) rfl rfl ?_
        refine xk_aldi rfl (p := 45) rfl (show 0 ≤ sCom m by omega) (v := (2, (((78 + 89 * s + 4 * ((sCom m).toNat)) : Nat) : Int))) (xal2 (ly_sd L hs) (by decide) (show (sCom m).toNat < 4 by omega) (ly_de L hs (show (sCom m).toNat < 4 by omega))) ?_
        refine xk_getf rfl (p := 48) rfl (xob ((ly_dl L hs (show (sCom m).toNat < 4 by omega)).1) (by decide)) (v := (2, ((((78 + 89 * s + 4 * ((sCom m).toNat)) + 3) : Nat) : Int))) (xsl2 rfl ((ly_dl L hs (show (sCom m).toNat < 4 by omega)).2.2.2.2.2.2)) ?_
        refine xk_load rfl (p := 49) rfl rfl ?_
        refine xk_aldi rfl (p := 50) rfl (show 0 ≤ sRow m ((sCom m).toNat) ((n : Nat) : Int) by omega) (v := (0, m 303 (12 * ((sCom m).toNat) + 8 + ((sRow m ((sCom m).toNat) ((n : Nat) : Int)).toNat)))) ((xal0 ((ly_dl L hs (show (sCom m).toNat < 4 by omega)).2.2.2.1) (show (sRow m ((sCom m).toNat) ((n : Nat) : Int)).toNat < 4 by omega)).trans (congrArg (fun z => some (0, z)) (rR3 hR (show (sCom m).toNat < 4 by omega) (show 0 < m 300 ((sCom m).toNat) by omega) (show (((sRow m ((sCom m).toNat) ((n : Nat) : Int)).toNat : Nat) : Int) < m 301 ((sCom m).toNat) by omega)))) ?_
        refine xk_goto rfl ?_
        refine xk_rete rfl (rfl) ?_
        exact ((if_neg c4_1).trans ((if_neg c17_4).trans ((if_neg c36_6)))).symm

theorem cVal_eq {m : xD} {n : Nat} : cVal m n = sVal m n := by
  have := sCom_rng (m := m)
  have := sRow_rng (m := m) (d := (sCom m).toNat) (x := ((n : Nat) : Int))
  unfold cVal sVal sRec
  by_cases a : sCom m = -1 <;> by_cases b : m 292 13 ≤ 0 <;> by_cases c : sRow m (sCom m).toNat ((n : Nat) : Int) = -1 <;> simp [a, b, c] <;> (try (split <;> omega)) <;> omega
theorem c_isName {d : Nat} {g : xG} {t m : xD} {s : Nat} {x : Int} (L : xLay g) (hs : s < 3) (hI : Inv m) (hR : Rep t s m)  : xCall (d) 31 [(2, (((5 + 89 * s) : Nat) : Int)), (0, x)] g t (xQ g t (some (0, if 0 ≤ x ∧ x < m 292 0 then (1 : Int) else 0))) := by
  show xOk (d) 31 0 [(2, (((5 + 89 * s) : Nat) : Int)), (0, x)] [] g t _
  refine xk_load rfl (p := 1) rfl rfl ?_
  refine xk_if rfl (p := 4) rfl (fun c1_1 => ?_) (fun c1_1 => ?_)
  · replace c1_1 : x < 0 := c1_1
    refine xk_push rfl (p := 17) rfl ?_
    refine xk_rete rfl (rfl) ?_
    exact (if_neg (by omega)).symm
  · replace c1_1 : ¬ (x < 0) := c1_1
    refine xk_load rfl (p := 5) rfl rfl ?_
    refine xk_load rfl (p := 6) rfl rfl ?_
    refine xk_getf rfl (p := 9) rfl (xob (ly_st L hs) (by decide)) (v := (0, ((nN m : Nat) : Int))) (xsl0 rfl (rNn hR hI)) ?_
    have iNn_ := iNn hI
    refine xk_icmp rfl (p := 12) rfl (fun c9_2 => ?_) (fun c9_2 => ?_)
    · replace c9_2 : ((nN m : Nat) : Int) ≤ x := c9_2
      refine xk_push rfl (p := 17) rfl ?_
      refine xk_rete rfl (rfl) ?_
      exact (if_neg (by omega)).symm
    · replace c9_2 : ¬ (((nN m : Nat) : Int) ≤ x) := c9_2
      refine xk_push rfl (p := 13) rfl ?_
      refine xk_goto rfl ?_
      refine xk_rete rfl (rfl) ?_
      exact (if_pos (by omega)).symm

theorem c_isDeal {d : Nat} {g : xG} {t m : xD} {s : Nat} {x : Int} (L : xLay g) (hs : s < 3) (hI : Inv m) (hR : Rep t s m)  : xCall (d) 41 [(2, (((5 + 89 * s) : Nat) : Int)), (0, x)] g t (xQ g t (some (0, if 0 ≤ x ∧ x < 4 ∧ 0 < m 300 x.toNat then (1 : Int) else 0))) := by
  show xOk (d) 41 0 [(2, (((5 + 89 * s) : Nat) : Int)), (0, x)] [] g t _
  refine xk_load rfl (p := 1) rfl rfl ?_
  refine xk_if rfl (p := 4) rfl (fun c1_1 => ?_) (fun c1_1 => ?_)
  · replace c1_1 : x < 0 := c1_1
    refine xk_push rfl (p := 27) rfl ?_
    refine xk_rete rfl (rfl) ?_
    exact (if_neg (by omega)).symm
  · replace c1_1 : ¬ (x < 0) := c1_1
    refine xk_load rfl (p := 5) rfl rfl ?_
    refine xk_push rfl (p := 6) rfl ?_
    refine xk_icmp rfl (p := 9) rfl (fun c6_2 => ?_) (fun c6_2 => ?_)
    · replace c6_2 : 4 ≤ x := c6_2
      refine xk_push rfl (p := 27) rfl ?_
      refine xk_rete rfl (rfl) ?_
      exact (if_neg (by omega)).symm
    · replace c6_2 : ¬ (4 ≤ x) := c6_2
      refine xk_load rfl (p := 10) rfl rfl ?_
      refine xk_getf rfl (p := 13) rfl (xob (ly_st L hs) (by decide)) (v := (2, (((7 + 89 * s) : Nat) : Int))) (xsl2 rfl (ly_s1 L hs)) ?_
      refine xk_load rfl (p := 14) rfl rfl ?_
      refine xk_aldi rfl (p := 15) rfl (show 0 ≤ x by omega) (v := (2, (((78 + 89 * s + 4 * (x.toNat)) : Nat) : Int))) (xal2 (ly_sd L hs) (by decide) (show x.toNat < 4 by omega) (ly_de L hs (show x.toNat < 4 by omega))) ?_
      refine xk_getf rfl (p := 18) rfl (xob ((ly_dl L hs (show x.toNat < 4 by omega)).1) (by decide)) (v := (0, sPha m (x.toNat))) (xsl0 rfl (rPha hR (show x.toNat < 4 by omega))) ?_
      have sPha_ := sPha_c hI (show x.toNat < 4 by omega)
      refine xk_push rfl (p := 19) rfl ?_
      refine xk_icmp rfl (p := 22) rfl (fun c19_3 => ?_) (fun c19_3 => ?_)
      · replace c19_3 : sPha m (x.toNat) = (-1) := c19_3
        refine xk_push rfl (p := 27) rfl ?_
        refine xk_rete rfl (rfl) ?_
        exact (if_neg (by omega)).symm
      · replace c19_3 : ¬ (sPha m (x.toNat) = (-1)) := c19_3
        refine xk_push rfl (p := 23) rfl ?_
        refine xk_goto rfl ?_
        refine xk_rete rfl (rfl) ?_
        exact (if_pos (by omega)).symm

theorem c_namesStored {d : Nat} {g : xG} {t m : xD} {s : Nat}  (L : xLay g) (hs : s < 3) (hI : Inv m) (hR : Rep t s m)  : xCall (d + 1) 36 [(2, (((5 + 89 * s) : Nat) : Int))] g t (xQ g t (some (0, ((xbs (fun i => decide (¬ sSto m i = 0)) (nN m) : Nat) : Int)))) := by
  show xOk (d + 1) 36 0 [(2, (((5 + 89 * s) : Nat) : Int)), (3, 0), (3, 0)] [] g t _
  have iNn_ := iNn hI
  refine xk_push rfl (p := 1) rfl ?_
  refine xk_store rfl (p := 2) rfl (by decide) (Nat.le_of_ble_eq_true rfl) (ls' := [(2, (((5 + 89 * s) : Nat) : Int)), (0, 0), (3, 0)]) rfl ?_
  refine xk_push rfl (p := 3) rfl ?_
  refine xk_store rfl (p := 4) rfl (by decide) (Nat.le_of_ble_eq_true rfl) (ls' := [(2, (((5 + 89 * s) : Nat) : Int)), (0, 0), (0, 0)]) rfl ?_
  have lp1 : ∀ k : Nat, k ≤ nN m → ∀ (z : Nat), (z = xbs (fun i => decide (¬ sSto m i = 0)) k) → xOk (d + 1) 36 4 [(2, (((5 + 89 * s) : Nat) : Int)), (0, ((z : Nat) : Int)), (0, ((k : Nat) : Int))] [] g t (xQ g t (some (0, ((xbs (fun i => decide (¬ sSto m i = 0)) (nN m) : Nat) : Int)))) := by
    refine xk_up (nN m) (fun k hkk ih1 z hi1 => ?_)
    have hz : z < 4096 := hi1 ▸ xbs_lt (by omega)
    refine xk_load rfl (p := 5) rfl rfl ?_
    refine xk_load rfl (p := 6) rfl rfl ?_
    refine xk_getf rfl (p := 9) rfl (xob (ly_st L hs) (by decide)) (v := (0, ((nN m : Nat) : Int))) (xsl0 rfl (rNn hR hI)) ?_
    have iNn_ := iNn hI
    refine xk_icmp rfl (p := 12) rfl (fun c9_2 => ?_) (fun c9_2 => ?_)
    · replace c9_2 : ((nN m : Nat) : Int) ≤ ((k : Nat) : Int) := c9_2
      refine xk_load rfl (p := 37) rfl rfl ?_
      refine xk_rete rfl (rfl) ?_
      rw [hi1, show k = nN m by omega]
    · replace c9_2 : ¬ (((nN m : Nat) : Int) ≤ ((k : Nat) : Int)) := c9_2
      refine xk_load rfl (p := 13) rfl rfl ?_
      refine xk_getf rfl (p := 16) rfl (xob (ly_st L hs) (by decide)) (v := (2, (((6 + 89 * s) : Nat) : Int))) (xsl2 rfl (ly_s0 L hs)) ?_
      refine xk_load rfl (p := 17) rfl rfl ?_
      refine xk_ald rfl (p := 18) rfl (v := (2, (((18 + 89 * s + 5 * k) : Nat) : Int))) (xal2 (ly_sn L hs) (by decide) (show k < 12 by omega) (ly_ne L hs (show k < 12 by omega))) ?_
      refine xk_callp rfl (p := 21) rfl (by decide) rfl (Nat.le_of_ble_eq_true rfl) (Nat.le_of_ble_eq_true rfl) (xrv ((ly_nm L hs (show k < 12 by omega)).1) (by decide)) (as := [(2, (((18 + 89 * s + 5 * k) : Nat) : Int))]) (r := []) rfl (v := (0, sSto m k)) (c_stored L hs hI hR (show k < nN m by omega)) ?_
      refine xk_if rfl (p := 24) rfl (fun c21_3 => ?_) (fun c21_3 => ?_)
      · replace c21_3 : sSto m k = 0 := c21_3
        refine xk_inc1 rfl (p := 33) rfl (n := k) rfl (by omega) (ls' := [(2, (((5 + 89 * s) : Nat) : Int)), (0, ((z : Nat) : Int)), (0, ((k + 1 : Nat) : Int))]) rfl ?_
        refine xk_goto rfl ?_
        exact ih1 (by omega) z (by first | exact xbs_in hi1 (by first | exact decide_eq_true (by omega) | exact (fun h => by have h := of_decide_eq_true h; omega)) | exact xbs_out hi1 (by first | exact decide_eq_true (by omega) | exact (fun h => by have h := of_decide_eq_true h; omega)))
      · replace c21_3 : ¬ (sSto m k = 0) := c21_3
        refine xk_load rfl (p := 25) rfl rfl ?_
        refine xk_push rfl (p := 26) rfl ?_
        refine xk_load rfl (p := 27) rfl rfl ?_
        refine xk_bin rfl (p := 28) rfl (z := ((2 ^ k : Nat) : Int)) (congrArg some (xshl_n (by omega))) ?_
        refine xk_bin rfl (p := 29) rfl (z := ((z ||| (2 ^ k) : Nat) : Int)) (congrArg some (xor_s (by omega) (p12 (by omega)))) ?_
        refine xk_store rfl (p := 30) rfl (by decide) (Nat.le_of_ble_eq_true rfl) (ls' := [(2, (((5 + 89 * s) : Nat) : Int)), (0, ((z ||| (2 ^ k) : Nat) : Int)), (0, ((k : Nat) : Int))]) rfl ?_
        refine xk_inc1 rfl (p := 33) rfl (n := k) rfl (by omega) (ls' := [(2, (((5 + 89 * s) : Nat) : Int)), (0, ((z ||| (2 ^ k) : Nat) : Int)), (0, ((k + 1 : Nat) : Int))]) rfl ?_
        refine xk_goto rfl ?_
        exact ih1 (by omega) (z ||| (2 ^ k)) (by first | exact xbs_in hi1 (by first | exact decide_eq_true (by omega) | exact (fun h => by have h := of_decide_eq_true h; omega)) | exact xbs_out hi1 (by first | exact decide_eq_true (by omega) | exact (fun h => by have h := of_decide_eq_true h; omega)))
  exact lp1 0 (by omega) 0 (by rfl)

theorem c_namesWithValue {d : Nat} {g : xG} {t m : xD} {s : Nat}  (L : xLay g) (hs : s < 3) (hI : Inv m) (hR : Rep t s m)  : xCall (d + 2) 37 [(2, (((5 + 89 * s) : Nat) : Int))] g t (xQ g t (some (0, ((xbs (fun i => decide (¬ sVal m i = 0)) (nN m) : Nat) : Int)))) := by
  show xOk (d + 2) 37 0 [(2, (((5 + 89 * s) : Nat) : Int)), (3, 0), (3, 0)] [] g t _
  have iNn_ := iNn hI
  refine xk_push rfl (p := 1) rfl ?_
  refine xk_store rfl (p := 2) rfl (by decide) (Nat.le_of_ble_eq_true rfl) (ls' := [(2, (((5 + 89 * s) : Nat) : Int)), (0, 0), (3, 0)]) rfl ?_
  refine xk_push rfl (p := 3) rfl ?_
  refine xk_store rfl (p := 4) rfl (by decide) (Nat.le_of_ble_eq_true rfl) (ls' := [(2, (((5 + 89 * s) : Nat) : Int)), (0, 0), (0, 0)]) rfl ?_
  have lp1 : ∀ k : Nat, k ≤ nN m → ∀ (z : Nat), (z = xbs (fun i => decide (¬ sVal m i = 0)) k) → xOk (d + 2) 37 4 [(2, (((5 + 89 * s) : Nat) : Int)), (0, ((z : Nat) : Int)), (0, ((k : Nat) : Int))] [] g t (xQ g t (some (0, ((xbs (fun i => decide (¬ sVal m i = 0)) (nN m) : Nat) : Int)))) := by
    refine xk_up (nN m) (fun k hkk ih1 z hi1 => ?_)
    have hz : z < 4096 := hi1 ▸ xbs_lt (by omega)
    refine xk_load rfl (p := 5) rfl rfl ?_
    refine xk_load rfl (p := 6) rfl rfl ?_
    refine xk_getf rfl (p := 9) rfl (xob (ly_st L hs) (by decide)) (v := (0, ((nN m : Nat) : Int))) (xsl0 rfl (rNn hR hI)) ?_
    have iNn_ := iNn hI
    refine xk_icmp rfl (p := 12) rfl (fun c9_2 => ?_) (fun c9_2 => ?_)
    · replace c9_2 : ((nN m : Nat) : Int) ≤ ((k : Nat) : Int) := c9_2
      refine xk_load rfl (p := 33) rfl rfl ?_
      refine xk_rete rfl (rfl) ?_
      rw [hi1, show k = nN m by omega]
    · replace c9_2 : ¬ (((nN m : Nat) : Int) ≤ ((k : Nat) : Int)) := c9_2
      refine xk_load rfl (p := 13) rfl rfl ?_
      refine xk_load rfl (p := 14) rfl rfl ?_
      refine xk_callp rfl (p := 17) rfl (by decide) rfl (Nat.le_of_ble_eq_true rfl) (Nat.le_of_ble_eq_true rfl) (xrv (ly_st L hs) (by decide)) (as := [(2, (((5 + 89 * s) : Nat) : Int)), (0, ((k : Nat) : Int))]) (r := []) rfl (v := (0, sVal m k)) (xCall_eq (c_valueOf L hs hI hR (show k < nN m by omega)) cVal_eq) ?_
      refine xk_if rfl (p := 20) rfl (fun c17_3 => ?_) (fun c17_3 => ?_)
      · replace c17_3 : sVal m k = 0 := c17_3
        refine xk_inc1 rfl (p := 29) rfl (n := k) rfl (by omega) (ls' := [(2, (((5 + 89 * s) : Nat) : Int)), (0, ((z : Nat) : Int)), (0, ((k + 1 : Nat) : Int))]) rfl ?_
        refine xk_goto rfl ?_
        exact ih1 (by omega) z (by first | exact xbs_in hi1 (by first | exact decide_eq_true (by omega) | exact (fun h => by have h := of_decide_eq_true h; omega)) | exact xbs_out hi1 (by first | exact decide_eq_true (by omega) | exact (fun h => by have h := of_decide_eq_true h; omega)))
      · replace c17_3 : ¬ (sVal m k = 0) := c17_3
        refine xk_load rfl (p := 21) rfl rfl ?_
        refine xk_push rfl (p := 22) rfl ?_
        refine xk_load rfl (p := 23) rfl rfl ?_
        refine xk_bin rfl (p := 24) rfl (z := ((2 ^ k : Nat) : Int)) (congrArg some (xshl_n (by omega))) ?_
        refine xk_bin rfl (p := 25) rfl (z := ((z ||| (2 ^ k) : Nat) : Int)) (congrArg some (xor_s (by omega) (p12 (by omega)))) ?_
        refine xk_store rfl (p := 26) rfl (by decide) (Nat.le_of_ble_eq_true rfl) (ls' := [(2, (((5 + 89 * s) : Nat) : Int)), (0, ((z ||| (2 ^ k) : Nat) : Int)), (0, ((k : Nat) : Int))]) rfl ?_
        refine xk_inc1 rfl (p := 29) rfl (n := k) rfl (by omega) (ls' := [(2, (((5 + 89 * s) : Nat) : Int)), (0, ((z ||| (2 ^ k) : Nat) : Int)), (0, ((k + 1 : Nat) : Int))]) rfl ?_
        refine xk_goto rfl ?_
        exact ih1 (by omega) (z ||| (2 ^ k)) (by first | exact xbs_in hi1 (by first | exact decide_eq_true (by omega) | exact (fun h => by have h := of_decide_eq_true h; omega)) | exact xbs_out hi1 (by first | exact decide_eq_true (by omega) | exact (fun h => by have h := of_decide_eq_true h; omega)))
  exact lp1 0 (by omega) 0 (by rfl)

theorem c_allDeals {d : Nat} {g : xG} {t m : xD} {s : Nat}  (L : xLay g) (hs : s < 3) (hI : Inv m) (hR : Rep t s m)  : xCall (d) 43 [(2, (((5 + 89 * s) : Nat) : Int))] g t (xQ g t (some (0, ((xbs (fun i => decide (0 < m 300 i)) (4) : Nat) : Int)))) := by
  show xOk (d) 43 0 [(2, (((5 + 89 * s) : Nat) : Int)), (3, 0), (3, 0)] [] g t _
  refine xk_push rfl (p := 1) rfl ?_
  refine xk_store rfl (p := 2) rfl (by decide) (Nat.le_of_ble_eq_true rfl) (ls' := [(2, (((5 + 89 * s) : Nat) : Int)), (0, 0), (3, 0)]) rfl ?_
  refine xk_push rfl (p := 3) rfl ?_
  refine xk_store rfl (p := 4) rfl (by decide) (Nat.le_of_ble_eq_true rfl) (ls' := [(2, (((5 + 89 * s) : Nat) : Int)), (0, 0), (0, 0)]) rfl ?_
  have lp1 : ∀ k : Nat, k ≤ 4 → ∀ (z : Nat), (z = xbs (fun i => decide (0 < m 300 i)) k) → xOk (d) 43 4 [(2, (((5 + 89 * s) : Nat) : Int)), (0, ((z : Nat) : Int)), (0, ((k : Nat) : Int))] [] g t (xQ g t (some (0, ((xbs (fun i => decide (0 < m 300 i)) (4) : Nat) : Int)))) := by
    refine xk_up 4 (fun k hkk ih1 z hi1 => ?_)
    have hz : z < 4096 := hi1 ▸ xbs_lt (by omega)
    refine xk_load rfl (p := 5) rfl rfl ?_
    refine xk_push rfl (p := 6) rfl ?_
    refine xk_icmp rfl (p := 9) rfl (fun c6_2 => ?_) (fun c6_2 => ?_)
    · replace c6_2 : 4 ≤ ((k : Nat) : Int) := c6_2
      refine xk_load rfl (p := 35) rfl rfl ?_
      refine xk_rete rfl (rfl) ?_
      rw [hi1, show k = 4 by omega]
    · replace c6_2 : ¬ (4 ≤ ((k : Nat) : Int)) := c6_2
      refine xk_load rfl (p := 10) rfl rfl ?_
      refine xk_getf rfl (p := 13) rfl (xob (ly_st L hs) (by decide)) (v := (2, (((7 + 89 * s) : Nat) : Int))) (xsl2 rfl (ly_s1 L hs)) ?_
      refine xk_load rfl (p := 14) rfl rfl ?_
      refine xk_ald rfl (p := 15) rfl (v := (2, (((78 + 89 * s + 4 * k) : Nat) : Int))) (xal2 (ly_sd L hs) (by decide) (show k < 4 by omega) (ly_de L hs (show k < 4 by omega))) ?_
      refine xk_getf rfl (p := 18) rfl (xob ((ly_dl L hs (show k < 4 by omega)).1) (by decide)) (v := (0, sPha m k)) (xsl0 rfl (rPha hR (show k < 4 by omega))) ?_
      have sPha_ := sPha_c hI (show k < 4 by omega)
      refine xk_push rfl (p := 19) rfl ?_
      refine xk_icmp rfl (p := 22) rfl (fun c19_3 => ?_) (fun c19_3 => ?_)
      · replace c19_3 : sPha m k = (-1) := c19_3
        refine xk_inc1 rfl (p := 31) rfl (n := k) rfl (by omega) (ls' := [(2, (((5 + 89 * s) : Nat) : Int)), (0, ((z : Nat) : Int)), (0, ((k + 1 : Nat) : Int))]) rfl ?_
        refine xk_goto rfl ?_
        exact ih1 (by omega) z (by first | exact xbs_in hi1 (by first | exact decide_eq_true (by omega) | exact (fun h => by have h := of_decide_eq_true h; omega)) | exact xbs_out hi1 (by first | exact decide_eq_true (by omega) | exact (fun h => by have h := of_decide_eq_true h; omega)))
      · replace c19_3 : ¬ (sPha m k = (-1)) := c19_3
        refine xk_load rfl (p := 23) rfl rfl ?_
        refine xk_push rfl (p := 24) rfl ?_
        refine xk_load rfl (p := 25) rfl rfl ?_
        refine xk_bin rfl (p := 26) rfl (z := ((2 ^ k : Nat) : Int)) (congrArg some (xshl_n (by omega))) ?_
        refine xk_bin rfl (p := 27) rfl (z := ((z ||| (2 ^ k) : Nat) : Int)) (congrArg some (xor_s (by omega) (p12 (by omega)))) ?_
        refine xk_store rfl (p := 28) rfl (by decide) (Nat.le_of_ble_eq_true rfl) (ls' := [(2, (((5 + 89 * s) : Nat) : Int)), (0, ((z ||| (2 ^ k) : Nat) : Int)), (0, ((k : Nat) : Int))]) rfl ?_
        refine xk_inc1 rfl (p := 31) rfl (n := k) rfl (by omega) (ls' := [(2, (((5 + 89 * s) : Nat) : Int)), (0, ((z ||| (2 ^ k) : Nat) : Int)), (0, ((k + 1 : Nat) : Int))]) rfl ?_
        refine xk_goto rfl ?_
        exact ih1 (by omega) (z ||| (2 ^ k)) (by first | exact xbs_in hi1 (by first | exact decide_eq_true (by omega) | exact (fun h => by have h := of_decide_eq_true h; omega)) | exact xbs_out hi1 (by first | exact decide_eq_true (by omega) | exact (fun h => by have h := of_decide_eq_true h; omega)))
  exact lp1 0 (by omega) 0 (by rfl)

theorem xlcmp_c {x y : Int} : (xlcmp x y < 0 ↔ x < y) ∧ (xlcmp x y ≤ 0 ↔ x ≤ y) ∧ (xlcmp x y = 0 ↔ x = y) := by
  unfold xlcmp
  split
  · omega
  · split <;> omega
theorem c_placeAmong {d : Nat} {g : xG} {t m : xD} {s : Nat} {n z0 : Nat} (L : xLay g) (hs : s < 3) (hI : Inv m) (hR : Rep t s m) (hn : n < nN m) (hz0 : z0 < 4096) : xCall (d) 38 [(2, (((5 + 89 * s) : Nat) : Int)), (0, ((n : Nat) : Int)), (0, ((z0 : Nat) : Int))] g t (xQ g t (some (0, ((xcnt (fun i => decide (z0.testBit i = true ∧ kK m i < kK m n)) (nN m) : Nat) : Int)))) := by
  show xOk (d) 38 0 [(2, (((5 + 89 * s) : Nat) : Int)), (0, ((n : Nat) : Int)), (0, ((z0 : Nat) : Int)), (3, 0), (3, 0)] [] g t _
  have iNn_ := iNn hI
  refine xk_push rfl (p := 1) rfl ?_
  refine xk_store rfl (p := 2) rfl (by decide) (Nat.le_of_ble_eq_true rfl) (ls' := [(2, (((5 + 89 * s) : Nat) : Int)), (0, ((n : Nat) : Int)), (0, ((z0 : Nat) : Int)), (0, 0), (3, 0)]) rfl ?_
  refine xk_push rfl (p := 3) rfl ?_
  refine xk_store rfl (p := 5) rfl (by decide) (Nat.le_of_ble_eq_true rfl) (ls' := [(2, (((5 + 89 * s) : Nat) : Int)), (0, ((n : Nat) : Int)), (0, ((z0 : Nat) : Int)), (0, 0), (0, 0)]) rfl ?_
  have lp1 : ∀ k : Nat, k ≤ nN m → ∀ (z : Nat), (z = xcnt (fun i => decide (z0.testBit i = true ∧ kK m i < kK m n)) k) → (z ≤ k) → xOk (d) 38 5 [(2, (((5 + 89 * s) : Nat) : Int)), (0, ((n : Nat) : Int)), (0, ((z0 : Nat) : Int)), (0, ((z : Nat) : Int)), (0, ((k : Nat) : Int))] [] g t (xQ g t (some (0, ((xcnt (fun i => decide (z0.testBit i = true ∧ kK m i < kK m n)) (nN m) : Nat) : Int)))) := by
    refine xk_up (nN m) (fun k hkk ih1 z hi1 hi2 => ?_)
    have xl := @xlcmp_c (kK m k) (kK m n)
    refine xk_load rfl (p := 7) rfl rfl ?_
    refine xk_load rfl (p := 8) rfl rfl ?_
    refine xk_getf rfl (p := 11) rfl (xob (ly_st L hs) (by decide)) (v := (0, ((nN m : Nat) : Int))) (xsl0 rfl (rNn hR hI)) ?_
    have iNn_ := iNn hI
    refine xk_icmp rfl (p := 14) rfl (fun c11_2 => ?_) (fun c11_2 => ?_)
    · replace c11_2 : ((nN m : Nat) : Int) ≤ ((k : Nat) : Int) := c11_2
      refine xk_load rfl (p := 56) rfl rfl ?_
      refine xk_rete rfl (rfl) ?_
      rw [hi1, show k = nN m by omega]
    · replace c11_2 : ¬ (((nN m : Nat) : Int) ≤ ((k : Nat) : Int)) := c11_2
      refine xk_load rfl (p := 15) rfl rfl ?_
      refine xk_load rfl (p := 17) rfl rfl ?_
      refine xk_bin rfl (p := 18) rfl (z := xshr ((z0 : Nat) : Int) ((k : Nat) : Int)) (rfl) ?_
      refine xk_push rfl (p := 19) rfl ?_
      refine xk_bin rfl (p := 20) rfl (z := (if z0.testBit k = true then (1 : Int) else 0)) (congrArg some (xbit_t (hz0) (by omega))) ?_
      refine xk_if rfl (p := 23) rfl (fun c20_3 => ?_) (fun c20_3 => ?_)
      · replace c20_3 : ¬ (z0.testBit k = true) := xb_e0 c20_3
        refine xk_inc1 rfl (p := 52) rfl (n := k) rfl (by omega) (ls' := [(2, (((5 + 89 * s) : Nat) : Int)), (0, ((n : Nat) : Int)), (0, ((z0 : Nat) : Int)), (0, ((z : Nat) : Int)), (0, ((k + 1 : Nat) : Int))]) rfl ?_
        refine xk_goto rfl ?_
        exact ih1 (by omega) z (by first | exact xcnt_in hi1 (decide_eq_true ⟨by assumption, by omega⟩) | exact xcnt_out hi1 (fun h => by have h := of_decide_eq_true h; first | (have h := h.1; contradiction) | (have h := h.2; omega))) (by omega)
      · replace c20_3 : z0.testBit k = true := xb_n0 c20_3
        refine xk_load rfl (p := 24) rfl rfl ?_
        refine xk_getf rfl (p := 27) rfl (xob (ly_st L hs) (by decide)) (v := (2, (((6 + 89 * s) : Nat) : Int))) (xsl2 rfl (ly_s0 L hs)) ?_
        refine xk_load rfl (p := 29) rfl rfl ?_
        refine xk_ald rfl (p := 30) rfl (v := (2, (((18 + 89 * s + 5 * k) : Nat) : Int))) (xal2 (ly_sn L hs) (by decide) (show k < 12 by omega) (ly_ne L hs (show k < 12 by omega))) ?_
        refine xk_getf rfl (p := 33) rfl (xob ((ly_nm L hs (show k < 12 by omega)).1) (by decide)) (v := (1, kK m k)) (xsl1 rfl (rKey hR (show k < nN m by omega))) ?_
        refine xk_load rfl (p := 34) rfl rfl ?_
        refine xk_getf rfl (p := 37) rfl (xob (ly_st L hs) (by decide)) (v := (2, (((6 + 89 * s) : Nat) : Int))) (xsl2 rfl (ly_s0 L hs)) ?_
        refine xk_load rfl (p := 38) rfl rfl ?_
        refine xk_ald rfl (p := 39) rfl (v := (2, (((18 + 89 * s + 5 * n) : Nat) : Int))) (xal2 (ly_sn L hs) (by decide) (show n < 12 by omega) (ly_ne L hs (show n < 12 by omega))) ?_
        refine xk_getf rfl (p := 42) rfl (xob ((ly_nm L hs (show n < 12 by omega)).1) (by decide)) (v := (1, kK m n)) (xsl1 rfl (rKey hR (show n < nN m by omega))) ?_
        refine xk_lbin rfl (p := 43) rfl rfl (w := (0, xlcmp (kK m k) (kK m n))) (rfl) ?_
        refine xk_if rfl (p := 46) rfl (fun c43_4 => ?_) (fun c43_4 => ?_)
        · replace c43_4 : 0 ≤ xlcmp (kK m k) (kK m n) := c43_4
          refine xk_inc1 rfl (p := 52) rfl (n := k) rfl (by omega) (ls' := [(2, (((5 + 89 * s) : Nat) : Int)), (0, ((n : Nat) : Int)), (0, ((z0 : Nat) : Int)), (0, ((z : Nat) : Int)), (0, ((k + 1 : Nat) : Int))]) rfl ?_
          refine xk_goto rfl ?_
          exact ih1 (by omega) z (by first | exact xcnt_in hi1 (decide_eq_true ⟨by assumption, by omega⟩) | exact xcnt_out hi1 (fun h => by have h := of_decide_eq_true h; first | (have h := h.1; contradiction) | (have h := h.2; omega))) (by omega)
        · replace c43_4 : ¬ (0 ≤ xlcmp (kK m k) (kK m n)) := c43_4
          refine xk_inc1 rfl (p := 49) rfl (n := z) rfl (by omega) (ls' := [(2, (((5 + 89 * s) : Nat) : Int)), (0, ((n : Nat) : Int)), (0, ((z0 : Nat) : Int)), (0, ((z + 1 : Nat) : Int)), (0, ((k : Nat) : Int))]) rfl ?_
          refine xk_inc1 rfl (p := 52) rfl (n := k) rfl (by omega) (ls' := [(2, (((5 + 89 * s) : Nat) : Int)), (0, ((n : Nat) : Int)), (0, ((z0 : Nat) : Int)), (0, ((z + 1 : Nat) : Int)), (0, ((k + 1 : Nat) : Int))]) rfl ?_
          refine xk_goto rfl ?_
          exact ih1 (by omega) (z + 1) (by first | exact xcnt_in hi1 (decide_eq_true ⟨by assumption, by omega⟩) | exact xcnt_out hi1 (fun h => by have h := of_decide_eq_true h; first | (have h := h.1; contradiction) | (have h := h.2; omega))) (by omega)
  exact lp1 0 (by omega) 0 (by rfl) (by omega)

/-- number k of a set, by keys -/
def sNum (m : xD) (z : Nat) (x : Int) : Int := xiy (nN m) (xfst (fun n => decide (z.testBit n = true ∧ ((xcnt (fun i => decide (z.testBit i = true ∧ kK m i < kK m n)) (nN m) : Nat) : Int) = x)) (nN m)) (-5)
theorem c_numberAmong {d : Nat} {g : xG} {t m : xD} {s : Nat} {z0 : Nat} {x : Int} (L : xLay g) (hs : s < 3) (hI : Inv m) (hR : Rep t s m) (hz0 : z0 < 4096) : xCall (d + 1) 39 [(2, (((5 + 89 * s) : Nat) : Int)), (0, ((z0 : Nat) : Int)), (0, x)] g t (xQ g t (some (0, sNum m z0 x))) := by
  show xOk (d + 1) 39 0 [(2, (((5 + 89 * s) : Nat) : Int)), (0, ((z0 : Nat) : Int)), (0, x), (3, 0)] [] g t _
  have iNn_ := iNn hI
  refine xk_push rfl (p := 1) rfl ?_
  refine xk_store rfl (p := 2) rfl (by decide) (Nat.le_of_ble_eq_true rfl) (ls' := [(2, (((5 + 89 * s) : Nat) : Int)), (0, ((z0 : Nat) : Int)), (0, x), (0, 0)]) rfl ?_
  have lp1 : ∀ k : Nat, k ≤ nN m → (∀ i, i < k → ¬ (z0.testBit i = true ∧ ((xcnt (fun j => decide (z0.testBit j = true ∧ kK m j < kK m i)) (nN m) : Nat) : Int) = x)) → xOk (d + 1) 39 2 [(2, (((5 + 89 * s) : Nat) : Int)), (0, ((z0 : Nat) : Int)), (0, x), (0, ((k : Nat) : Int))] [] g t (xQ g t (some (0, sNum m z0 x))) := by
    refine xk_up (nN m) (fun k hkk ih1  hi1 => ?_)
    refine xk_load rfl (p := 3) rfl rfl ?_
    refine xk_load rfl (p := 4) rfl rfl ?_
    refine xk_getf rfl (p := 7) rfl (xob (ly_st L hs) (by decide)) (v := (0, ((nN m : Nat) : Int))) (xsl0 rfl (rNn hR hI)) ?_
    have iNn_ := iNn hI
    refine xk_icmp rfl (p := 10) rfl (fun c7_2 => ?_) (fun c7_2 => ?_)
    · replace c7_2 : ((nN m : Nat) : Int) ≤ ((k : Nat) : Int) := c7_2
      refine xk_push rfl (p := 38) rfl ?_
      refine xk_rete rfl (rfl) ?_
      exact xiyf0 (by omega) hi1
    · replace c7_2 : ¬ (((nN m : Nat) : Int) ≤ ((k : Nat) : Int)) := c7_2
      refine xk_load rfl (p := 11) rfl rfl ?_
      refine xk_load rfl (p := 12) rfl rfl ?_
      refine xk_bin rfl (p := 13) rfl (z := xshr ((z0 : Nat) : Int) ((k : Nat) : Int)) (rfl) ?_
      refine xk_push rfl (p := 14) rfl ?_
      refine xk_bin rfl (p := 15) rfl (z := (if z0.testBit k = true then (1 : Int) else 0)) (congrArg some (xbit_t (hz0) (by omega))) ?_
      refine xk_if rfl (p := 18) rfl (fun c15_3 => ?_) (fun c15_3 => ?_)
      · replace c15_3 : ¬ (z0.testBit k = true) := xb_e0 c15_3
        refine xk_inc1 rfl (p := 33) rfl (n := k) rfl (by omega) (ls' := [(2, (((5 + 89 * s) : Nat) : Int)), (0, ((z0 : Nat) : Int)), (0, x), (0, ((k + 1 : Nat) : Int))]) rfl ?_
        refine xk_goto rfl ?_
        exact ih1 (by omega)  (by exact xall_up hi1 (fun h => by first | (have h := h.1; contradiction) | (have h := h.2; contradiction)))
      · replace c15_3 : z0.testBit k = true := xb_n0 c15_3
        refine xk_load rfl (p := 19) rfl rfl ?_
        refine xk_load rfl (p := 20) rfl rfl ?_
        refine xk_load rfl (p := 21) rfl rfl ?_
        refine xk_callp rfl (p := 24) rfl (by decide) rfl (Nat.le_of_ble_eq_true rfl) (Nat.le_of_ble_eq_true rfl) (xrv (ly_st L hs) (by decide)) (as := [(2, (((5 + 89 * s) : Nat) : Int)), (0, ((k : Nat) : Int)), (0, ((z0 : Nat) : Int))]) (r := []) rfl (v := (0, ((xcnt (fun i => decide (z0.testBit i = true ∧ kK m i < kK m k)) (nN m) : Nat) : Int))) (c_placeAmong L hs hI hR (show k < nN m by omega) (hz0)) ?_
        have xcnt_ := xcnt_le (p := fun i => decide (z0.testBit i = true ∧ kK m i < kK m k)) (nN m)
        refine xk_load rfl (p := 25) rfl rfl ?_
        refine xk_icmp rfl (p := 28) rfl (fun c25_4 => ?_) (fun c25_4 => ?_)
        · replace c25_4 : ¬ (((xcnt (fun i => decide (z0.testBit i = true ∧ kK m i < kK m k)) (nN m) : Nat) : Int) = x) := c25_4
          refine xk_inc1 rfl (p := 33) rfl (n := k) rfl (by omega) (ls' := [(2, (((5 + 89 * s) : Nat) : Int)), (0, ((z0 : Nat) : Int)), (0, x), (0, ((k + 1 : Nat) : Int))]) rfl ?_
          refine xk_goto rfl ?_
          exact ih1 (by omega)  (by exact xall_up hi1 (fun h => by first | (have h := h.1; contradiction) | (have h := h.2; contradiction)))
        · replace c25_4 : ((xcnt (fun i => decide (z0.testBit i = true ∧ kK m i < kK m k)) (nN m) : Nat) : Int) = x := Decidable.not_not.mp c25_4
          refine xk_load rfl (p := 29) rfl rfl ?_
          refine xk_rete rfl (rfl) ?_
          exact xiyf1 (by omega) hi1 ⟨by assumption, by assumption⟩
  exact lp1 0 (by omega)  (by intro i h; omega)

theorem c_namesBehind {d : Nat} {g : xG} {t m : xD} {s : Nat} {x : Int} (L : xLay g) (hs : s < 3) (hI : Inv m) (hR : Rep t s m)  : xCall (d) 56 [(2, (((5 + 89 * s) : Nat) : Int)), (1, x)] g t (xQ g t (some (0, ((xbs (fun i => decide (x < kK m i)) (nN m) : Nat) : Int)))) := by
  show xOk (d) 56 0 [(2, (((5 + 89 * s) : Nat) : Int)), (1, x), (3, 0), (3, 0), (3, 0)] [] g t _
  have iNn_ := iNn hI
  refine xk_push rfl (p := 1) rfl ?_
  refine xk_store rfl (p := 2) rfl (by decide) (Nat.le_of_ble_eq_true rfl) (ls' := [(2, (((5 + 89 * s) : Nat) : Int)), (1, x), (3, 0), (0, 0), (3, 0)]) rfl ?_
  refine xk_push rfl (p := 3) rfl ?_
  refine xk_store rfl (p := 5) rfl (by decide) (Nat.le_of_ble_eq_true rfl) (ls' := [(2, (((5 + 89 * s) : Nat) : Int)), (1, x), (3, 0), (0, 0), (0, 0)]) rfl ?_
  have lp1 : ∀ k : Nat, k ≤ nN m → ∀ (z : Nat), (z = xbs (fun i => decide (x < kK m i)) k) → xOk (d) 56 5 [(2, (((5 + 89 * s) : Nat) : Int)), (1, x), (3, 0), (0, ((z : Nat) : Int)), (0, ((k : Nat) : Int))] [] g t (xQ g t (some (0, ((xbs (fun i => decide (x < kK m i)) (nN m) : Nat) : Int)))) := by
    refine xk_up (nN m) (fun k hkk ih1 z hi1 => ?_)
    have hz : z < 4096 := hi1 ▸ xbs_lt (by omega)
    refine xk_load rfl (p := 7) rfl rfl ?_
    refine xk_load rfl (p := 8) rfl rfl ?_
    refine xk_getf rfl (p := 11) rfl (xob (ly_st L hs) (by decide)) (v := (0, ((nN m : Nat) : Int))) (xsl0 rfl (rNn hR hI)) ?_
    have iNn_ := iNn hI
    refine xk_icmp rfl (p := 14) rfl (fun c11_2 => ?_) (fun c11_2 => ?_)
    · replace c11_2 : ((nN m : Nat) : Int) ≤ ((k : Nat) : Int) := c11_2
      refine xk_load rfl (p := 43) rfl rfl ?_
      refine xk_rete rfl (rfl) ?_
      rw [hi1, show k = nN m by omega]
    · replace c11_2 : ¬ (((nN m : Nat) : Int) ≤ ((k : Nat) : Int)) := c11_2
      refine xk_load rfl (p := 15) rfl rfl ?_
      refine xk_getf rfl (p := 18) rfl (xob (ly_st L hs) (by decide)) (v := (2, (((6 + 89 * s) : Nat) : Int))) (xsl2 rfl (ly_s0 L hs)) ?_
      refine xk_load rfl (p := 20) rfl rfl ?_
      refine xk_ald rfl (p := 21) rfl (v := (2, (((18 + 89 * s + 5 * k) : Nat) : Int))) (xal2 (ly_sn L hs) (by decide) (show k < 12 by omega) (ly_ne L hs (show k < 12 by omega))) ?_
      refine xk_getf rfl (p := 24) rfl (xob ((ly_nm L hs (show k < 12 by omega)).1) (by decide)) (v := (1, kK m k)) (xsl1 rfl (rKey hR (show k < nN m by omega))) ?_
      refine xk_load rfl (p := 25) rfl rfl ?_
      refine xk_lbin rfl (p := 26) rfl rfl (w := (0, xlcmp (kK m k) x)) (rfl) ?_
      refine xk_if rfl (p := 29) rfl (fun c26_3 => ?_) (fun c26_3 => ?_)
      · replace c26_3 : xlcmp (kK m k) x ≤ 0 := c26_3
        refine xk_inc1 rfl (p := 39) rfl (n := k) rfl (by omega) (ls' := [(2, (((5 + 89 * s) : Nat) : Int)), (1, x), (3, 0), (0, ((z : Nat) : Int)), (0, ((k + 1 : Nat) : Int))]) rfl ?_
        refine xk_goto rfl ?_
        exact ih1 (by omega) z (by first | exact xbs_in hi1 (by have xl := @xlcmp_c (kK m k) x; first | exact decide_eq_true (by omega) | exact (fun h => by have h := of_decide_eq_true h; omega)) | exact xbs_out hi1 (by have xl := @xlcmp_c (kK m k) x; first | exact decide_eq_true (by omega) | exact (fun h => by have h := of_decide_eq_true h; omega)))
      · replace c26_3 : ¬ (xlcmp (kK m k) x ≤ 0) := c26_3
        refine xk_load rfl (p := 30) rfl rfl ?_
        refine xk_push rfl (p := 31) rfl ?_
        refine xk_load rfl (p := 33) rfl rfl ?_
        refine xk_bin rfl (p := 34) rfl (z := ((2 ^ k : Nat) : Int)) (congrArg some (xshl_n (by omega))) ?_
        refine xk_bin rfl (p := 35) rfl (z := ((z ||| (2 ^ k) : Nat) : Int)) (congrArg some (xor_s (by omega) (p12 (by omega)))) ?_
        refine xk_store rfl (p := 36) rfl (by decide) (Nat.le_of_ble_eq_true rfl) (ls' := [(2, (((5 + 89 * s) : Nat) : Int)), (1, x), (3, 0), (0, ((z ||| (2 ^ k) : Nat) : Int)), (0, ((k : Nat) : Int))]) rfl ?_
        refine xk_inc1 rfl (p := 39) rfl (n := k) rfl (by omega) (ls' := [(2, (((5 + 89 * s) : Nat) : Int)), (1, x), (3, 0), (0, ((z ||| (2 ^ k) : Nat) : Int)), (0, ((k + 1 : Nat) : Int))]) rfl ?_
        refine xk_goto rfl ?_
        exact ih1 (by omega) (z ||| (2 ^ k)) (by first | exact xbs_in hi1 (by have xl := @xlcmp_c (kK m k) x; first | exact decide_eq_true (by omega) | exact (fun h => by have h := of_decide_eq_true h; omega)) | exact xbs_out hi1 (by have xl := @xlcmp_c (kK m k) x; first | exact decide_eq_true (by omega) | exact (fun h => by have h := of_decide_eq_true h; omega)))
  exact lp1 0 (by omega) 0 (by rfl)

theorem c_namesWritten {d : Nat} {g : xG} {t m : xD} {s : Nat}  (L : xLay g) (hs : s < 3) (hI : Inv m) (hR : Rep t s m)  : xCall (d) 57 [(2, (((5 + 89 * s) : Nat) : Int))] g t (xQ g t (some (0, ((xcnt (fun i => decide (¬ m 304 i = 0)) (nN m) : Nat) : Int)))) := by
  show xOk (d) 57 0 [(2, (((5 + 89 * s) : Nat) : Int)), (3, 0), (3, 0)] [] g t _
  have iNn_ := iNn hI
  refine xk_push rfl (p := 1) rfl ?_
  refine xk_store rfl (p := 2) rfl (by decide) (Nat.le_of_ble_eq_true rfl) (ls' := [(2, (((5 + 89 * s) : Nat) : Int)), (0, 0), (3, 0)]) rfl ?_
  refine xk_push rfl (p := 3) rfl ?_
  refine xk_store rfl (p := 4) rfl (by decide) (Nat.le_of_ble_eq_true rfl) (ls' := [(2, (((5 + 89 * s) : Nat) : Int)), (0, 0), (0, 0)]) rfl ?_
  have lp1 : ∀ k : Nat, k ≤ nN m → ∀ (z : Nat), (z = xcnt (fun i => decide (¬ m 304 i = 0)) k) → (z ≤ k) → xOk (d) 57 4 [(2, (((5 + 89 * s) : Nat) : Int)), (0, ((z : Nat) : Int)), (0, ((k : Nat) : Int))] [] g t (xQ g t (some (0, ((xcnt (fun i => decide (¬ m 304 i = 0)) (nN m) : Nat) : Int)))) := by
    refine xk_up (nN m) (fun k hkk ih1 z hi1 hi2 => ?_)
    refine xk_load rfl (p := 5) rfl rfl ?_
    refine xk_load rfl (p := 6) rfl rfl ?_
    refine xk_getf rfl (p := 9) rfl (xob (ly_st L hs) (by decide)) (v := (0, ((nN m : Nat) : Int))) (xsl0 rfl (rNn hR hI)) ?_
    have iNn_ := iNn hI
    refine xk_icmp rfl (p := 12) rfl (fun c9_2 => ?_) (fun c9_2 => ?_)
    · replace c9_2 : ((nN m : Nat) : Int) ≤ ((k : Nat) : Int) := c9_2
      refine xk_load rfl (p := 34) rfl rfl ?_
      refine xk_rete rfl (rfl) ?_
      rw [hi1, show k = nN m by omega]
    · replace c9_2 : ¬ (((nN m : Nat) : Int) ≤ ((k : Nat) : Int)) := c9_2
      refine xk_load rfl (p := 13) rfl rfl ?_
      refine xk_getf rfl (p := 16) rfl (xob (ly_st L hs) (by decide)) (v := (2, (((6 + 89 * s) : Nat) : Int))) (xsl2 rfl (ly_s0 L hs)) ?_
      refine xk_load rfl (p := 17) rfl rfl ?_
      refine xk_ald rfl (p := 18) rfl (v := (2, (((18 + 89 * s + 5 * k) : Nat) : Int))) (xal2 (ly_sn L hs) (by decide) (show k < 12 by omega) (ly_ne L hs (show k < 12 by omega))) ?_
      refine xk_getf rfl (p := 21) rfl (xob ((ly_nm L hs (show k < 12 by omega)).1) (by decide)) (v := (0, m 304 k)) (xsl0 rfl (rWro hR (show k < nN m by omega))) ?_
      refine xk_if rfl (p := 24) rfl (fun c21_3 => ?_) (fun c21_3 => ?_)
      · replace c21_3 : m 304 k = 0 := c21_3
        refine xk_inc1 rfl (p := 30) rfl (n := k) rfl (by omega) (ls' := [(2, (((5 + 89 * s) : Nat) : Int)), (0, ((z : Nat) : Int)), (0, ((k + 1 : Nat) : Int))]) rfl ?_
        refine xk_goto rfl ?_
        exact ih1 (by omega) z (by first | exact xcnt_in hi1 (decide_eq_true (by omega)) | exact xcnt_out hi1 (fun h => by have h := of_decide_eq_true h; omega)) (by omega)
      · replace c21_3 : ¬ (m 304 k = 0) := c21_3
        refine xk_inc1 rfl (p := 27) rfl (n := z) rfl (by omega) (ls' := [(2, (((5 + 89 * s) : Nat) : Int)), (0, ((z + 1 : Nat) : Int)), (0, ((k : Nat) : Int))]) rfl ?_
        refine xk_inc1 rfl (p := 30) rfl (n := k) rfl (by omega) (ls' := [(2, (((5 + 89 * s) : Nat) : Int)), (0, ((z + 1 : Nat) : Int)), (0, ((k + 1 : Nat) : Int))]) rfl ?_
        refine xk_goto rfl ?_
        exact ih1 (by omega) (z + 1) (by first | exact xcnt_in hi1 (decide_eq_true (by omega)) | exact xcnt_out hi1 (fun h => by have h := of_decide_eq_true h; omega)) (by omega)
  exact lp1 0 (by omega) 0 (by rfl) (by omega)

def cCan (m : xD) : Int :=
  if sCom m < 0 then (((xbs (fun i => decide (0 < m 300 i)) (4) : Nat) : Int)) else (((xdf (xbs (fun i => decide (0 < m 300 i)) (4)) (2 ^ (sCom m).toNat) : Nat) : Int))
theorem c_dealsThatCanGo {d : Nat} {g : xG} {t m : xD} {s : Nat}  (L : xLay g) (hs : s < 3) (hI : Inv m) (hR : Rep t s m)  : xCall (d + 1) 44 [(2, (((5 + 89 * s) : Nat) : Int))] g t (xQ g t (some (0, cCan m ))) := by
  show xOk (d + 1) 44 0 [(2, (((5 + 89 * s) : Nat) : Int)), (3, 0)] [] g t _
  refine xk_load rfl (p := 1) rfl rfl ?_
  refine xk_callp rfl (p := 4) rfl (by decide) rfl (Nat.le_of_ble_eq_true rfl) (Nat.le_of_ble_eq_true rfl) (xrv (ly_st L hs) (by decide)) (as := [(2, (((5 + 89 * s) : Nat) : Int))]) (r := []) rfl (v := (0, sCom m)) (c_committing L hs hI hR) ?_
  have sCom_ := sCom_rng (m := m)
  have sCat_ := sCom_at (m := m)
  refine xk_store rfl (p := 5) rfl (by decide) (Nat.le_of_ble_eq_true rfl) (ls' := [(2, (((5 + 89 * s) : Nat) : Int)), (0, sCom m)]) rfl ?_
  refine xk_load rfl (p := 6) rfl rfl ?_
  refine xk_if rfl (p := 9) rfl (fun c6_1 => ?_) (fun c6_1 => ?_)
  · replace c6_1 : sCom m < 0 := c6_1
    refine xk_load rfl (p := 23) rfl rfl ?_
    refine xk_callp rfl (p := 26) rfl (by decide) rfl (Nat.le_of_ble_eq_true rfl) (Nat.le_of_ble_eq_true rfl) (xrv (ly_st L hs) (by decide)) (as := [(2, (((5 + 89 * s) : Nat) : Int))]) (r := []) rfl (v := (0, ((xbs (fun i => decide (0 < m 300 i)) (4) : Nat) : Int))) (c_allDeals L hs hI hR) ?_
    have xbs_ := xbs_lt (p := fun i => decide (0 < m 300 i)) (K := 4) (by omega)
    refine xk_rete rfl (rfl) ?_
    exact ((if_pos c6_1)).symm
  · replace c6_1 : ¬ (sCom m < 0) := c6_1
    refine xk_load rfl (p := 10) rfl rfl ?_
    refine xk_callp rfl (p := 13) rfl (by decide) rfl (Nat.le_of_ble_eq_true rfl) (Nat.le_of_ble_eq_true rfl) (xrv (ly_st L hs) (by decide)) (as := [(2, (((5 + 89 * s) : Nat) : Int))]) (r := []) rfl (v := (0, ((xbs (fun i => decide (0 < m 300 i)) (4) : Nat) : Int))) (c_allDeals L hs hI hR) ?_
    have xbs_ := xbs_lt (p := fun i => decide (0 < m 300 i)) (K := 4) (by omega)
    refine xk_push rfl (p := 14) rfl ?_
    refine xk_load rfl (p := 15) rfl rfl ?_
    refine xk_bin rfl (p := 16) rfl (z := ((2 ^ (sCom m).toNat : Nat) : Int)) (congrArg some (xshl_t (by omega) (by omega))) ?_
    refine xk_push rfl (p := 17) rfl ?_
    refine xk_bin rfl (p := 18) rfl (z := xxor ((2 ^ (sCom m).toNat : Nat) : Int) (-1)) (rfl) ?_
    refine xk_bin rfl (p := 19) rfl (z := ((xdf (xbs (fun i => decide (0 < m 300 i)) (4)) (2 ^ (sCom m).toNat) : Nat) : Int)) (congrArg some (xandn_s (xbs_lt (by omega)) (p12 (by omega)))) ?_
    refine xk_goto rfl ?_
    refine xk_rete rfl (rfl) ?_
    exact ((if_neg c6_1)).symm

def nCan (m : xD) : Nat := xbs (fun d => decide (0 < m 300 d ∧ ¬ sCom m = ((d : Nat) : Int))) 4
theorem nCan_lt {m : xD} : nCan m < 16 := xbs_lt4 (by omega)
theorem eq_bits {z y : Nat} (hz : z < 4096) (hy : y < 4096) (h : ∀ j, j < 12 → (z.testBit j = true ↔ y.testBit j = true)) : z = y := by
  apply Nat.eq_of_testBit_eq
  intro j
  by_cases c : j < 12
  · have := h j c
    cases e1 : z.testBit j <;> cases e2 : y.testBit j <;> simp_all
  · have a1 : z.testBit j = false := Nat.testBit_lt_two_pow (Nat.lt_of_lt_of_le hz (Nat.pow_le_pow_right (n := 2) (i := 12) (by decide) (by omega)))
    have a2 : y.testBit j = false := Nat.testBit_lt_two_pow (Nat.lt_of_lt_of_le hy (Nat.pow_le_pow_right (n := 2) (i := 12) (by decide) (by omega)))
    rw [a1, a2]
theorem cCan_eq {m : xD} : cCan m = ((nCan m : Nat) : Int) := by
  have h := sCom_rng (m := m)
  unfold cCan
  split
  · rename_i c
    congr 1
    unfold nCan
    congr 1
    funext d
    congr 1
    apply propext
    omega
  · rename_i c
    congr 1
    apply eq_bits (xdf_lt (xbs_lt (by omega))) (xbs_lt (by omega))
    intro j hj
    rw [xdf_bit hj, xbs_bit, xbs_bit, decide_eq_true_iff, decide_eq_true_iff, Nat.testBit_two_pow, decide_eq_true_iff]
    omega
theorem c_lockerOf {d : Nat} {g : xG} {t m : xD} {s : Nat} {x : Int} (L : xLay g) (hs : s < 3) (hI : Inv m) (hR : Rep t s m)  : xCall (d + 2) 46 [(2, (((5 + 89 * s) : Nat) : Int)), (0, x)] g t (xQ g t (some (0, sLock m x (-1)))) := by
  show xOk (d + 2) 46 0 [(2, (((5 + 89 * s) : Nat) : Int)), (0, x), (3, 0)] [] g t _
  refine xk_push rfl (p := 1) rfl ?_
  refine xk_store rfl (p := 2) rfl (by decide) (Nat.le_of_ble_eq_true rfl) (ls' := [(2, (((5 + 89 * s) : Nat) : Int)), (0, x), (0, 0)]) rfl ?_
  have lp1 : ∀ k : Nat, k ≤ 4 → (∀ i : Nat, i < k → ¬ (¬ (i : Int) = -1 ∧ 0 < m 300 i ∧ ¬ m 302 i = 0 ∧ ¬ sRow m i x = -1)) → xOk (d + 2) 46 2 [(2, (((5 + 89 * s) : Nat) : Int)), (0, x), (0, ((k : Nat) : Int))] [] g t (xQ g t (some (0, sLock m x (-1)))) := by
    refine xk_up 4 (fun k hkk ih1  hi1 => ?_)
    refine xk_load rfl (p := 3) rfl rfl ?_
    refine xk_push rfl (p := 4) rfl ?_
    refine xk_icmp rfl (p := 7) rfl (fun c4_2 => ?_) (fun c4_2 => ?_)
    · replace c4_2 : 4 ≤ ((k : Nat) : Int) := c4_2
      refine xk_push rfl (p := 30) rfl ?_
      refine xk_rete rfl (rfl) ?_
      exact xiyf0 (by omega) hi1
    · replace c4_2 : ¬ (4 ≤ ((k : Nat) : Int)) := c4_2
      refine xk_load rfl (p := 8) rfl rfl ?_
      refine xk_getf rfl (p := 11) rfl (xob (ly_st L hs) (by decide)) (v := (2, (((7 + 89 * s) : Nat) : Int))) (xsl2 rfl (ly_s1 L hs)) ?_
      refine xk_load rfl (p := 12) rfl rfl ?_
      refine xk_ald rfl (p := 13) rfl (v := (2, (((78 + 89 * s + 4 * k) : Nat) : Int))) (xal2 (ly_sd L hs) (by decide) (show k < 4 by omega) (ly_de L hs (show k < 4 by omega))) ?_
      refine xk_load rfl (p := 14) rfl rfl ?_
      refine xk_callp rfl (p := 17) rfl (by decide) rfl (Nat.le_of_ble_eq_true rfl) (Nat.le_of_ble_eq_true rfl) (xrv ((ly_dl L hs (show k < 4 by omega)).1) (by decide)) (as := [(2, (((78 + 89 * s + 4 * k) : Nat) : Int)), (0, x)]) (r := []) rfl (v := (0, (if 0 < m 300 k ∧ ¬ m 302 k = 0 ∧ ¬ sRow m k x = -1 then (1 : Int) else 0))) (c_locks L hs hI hR (show k < 4 by omega)) ?_
      refine xk_if rfl (p := 20) rfl (fun c17_3 => ?_) (fun c17_3 => ?_)
      · replace c17_3 : ¬ (0 < m 300 k ∧ ¬ m 302 k = 0 ∧ ¬ sRow m k x = -1) := xb_e0 c17_3
        refine xk_inc1 rfl (p := 25) rfl (n := k) rfl (by omega) (ls' := [(2, (((5 + 89 * s) : Nat) : Int)), (0, x), (0, ((k + 1 : Nat) : Int))]) rfl ?_
        refine xk_goto rfl ?_
        exact ih1 (by omega)  (by exact xall_up hi1 (by omega))
      · replace c17_3 : 0 < m 300 k ∧ ¬ m 302 k = 0 ∧ ¬ sRow m k x = -1 := xb_n0 c17_3
        refine xk_load rfl (p := 21) rfl rfl ?_
        refine xk_rete rfl (rfl) ?_
        exact xiyf1 (by omega) hi1 (by omega)
  exact lp1 0 (by omega)  (by intro i h; omega)

theorem sApp_rng {m : xD} (hI : Inv m) : 0 ≤ sApp m ∧ sApp m ≤ 4 := by
  have h := sCom_rng (m := m)
  unfold sApp
  split
  · rename_i c
    have hd : (sCom m).toNat < 4 := by omega
    have := iO hI hd (sCom_at c.1)
    have := iD hI hd
    omega
  · omega
def cLeft (m : xD) : Int :=
  if 0 ≤ sCom m then (if sRec m = 0 then (((((nR m ((sCom m).toNat) : Nat) : Int) - sApp m) + 2)) else (((((nR m ((sCom m).toNat) : Nat) : Int) - sApp m) + 1))) else 0
theorem c_stepsLeft {d : Nat} {g : xG} {t m : xD} {s : Nat}  (L : xLay g) (hs : s < 3) (hI : Inv m) (hR : Rep t s m)  : xCall (d + 1) 52 [(2, (((5 + 89 * s) : Nat) : Int))] g t (xQ g t (some (0, cLeft m ))) := by
  show xOk (d + 1) 52 0 [(2, (((5 + 89 * s) : Nat) : Int)), (3, 0)] [] g t _
  have sApp_ := sApp_rng hI
  refine xk_load rfl (p := 1) rfl rfl ?_
  refine xk_callp rfl (p := 4) rfl (by decide) rfl (Nat.le_of_ble_eq_true rfl) (Nat.le_of_ble_eq_true rfl) (xrv (ly_st L hs) (by decide)) (as := [(2, (((5 + 89 * s) : Nat) : Int))]) (r := []) rfl (v := (0, sCom m)) (c_committing L hs hI hR) ?_
  have sCom_ := sCom_rng (m := m)
  have sCat_ := sCom_at (m := m)
  refine xk_store rfl (p := 5) rfl (by decide) (Nat.le_of_ble_eq_true rfl) (ls' := [(2, (((5 + 89 * s) : Nat) : Int)), (0, sCom m)]) rfl ?_
  refine xk_load rfl (p := 6) rfl rfl ?_
  refine xk_if rfl (p := 9) rfl (fun c6_1 => ?_) (fun c6_1 => ?_)
  · replace c6_1 : 0 ≤ sCom m := c6_1
    refine xk_load rfl (p := 12) rfl rfl ?_
    refine xk_getf rfl (p := 15) rfl (xob (ly_st L hs) (by decide)) (v := (2, (((7 + 89 * s) : Nat) : Int))) (xsl2 rfl (ly_s1 L hs)) ?_
    refine xk_load rfl (p := 16) rfl rfl ?_
    refine xk_aldi rfl (p := 17) rfl (show 0 ≤ sCom m by omega) (v := (2, (((78 + 89 * s + 4 * ((sCom m).toNat)) : Nat) : Int))) (xal2 (ly_sd L hs) (by decide) (show (sCom m).toNat < 4 by omega) (ly_de L hs (show (sCom m).toNat < 4 by omega))) ?_
    refine xk_getf rfl (p := 20) rfl (xob ((ly_dl L hs (show (sCom m).toNat < 4 by omega)).1) (by decide)) (v := (0, ((nR m ((sCom m).toNat) : Nat) : Int))) (xsl0 rfl ((rRow hR (show (sCom m).toNat < 4 by omega) (show 0 < m 300 ((sCom m).toNat) by omega)).trans (iRn hI (show (sCom m).toNat < 4 by omega)).1)) ?_
    have iRn_ := iRn hI (show (sCom m).toNat < 4 by omega)
    refine xk_load rfl (p := 21) rfl rfl ?_
    refine xk_getf rfl (p := 24) rfl (xob (ly_st L hs) (by decide)) (v := (0, sApp m)) (xsl0 rfl (rApp hR)) ?_
    refine xk_bin rfl (p := 25) rfl (z := (((nR m ((sCom m).toNat) : Nat) : Int) - sApp m)) (congrArg some (xsub_r (by omega) (by omega))) ?_
    refine xk_load rfl (p := 26) rfl rfl ?_
    refine xk_getf rfl (p := 29) rfl (xob (ly_st L hs) (by decide)) (v := (0, sRec m)) (xsl0 rfl (rRec hR)) ?_
    refine xk_if rfl (p := 32) rfl (fun c29_2 => ?_) (fun c29_2 => ?_)
    · replace c29_2 : sRec m = 0 := c29_2
      refine xk_push rfl (p := 37) rfl ?_
      refine xk_bin rfl (p := 38) rfl (z := ((((nR m ((sCom m).toNat) : Nat) : Int) - sApp m) + 2)) (congrArg some (xadd_r (by omega) (by omega))) ?_
      refine xk_rete rfl (rfl) ?_
      exact ((if_pos c6_1).trans ((if_pos c29_2))).symm
    · replace c29_2 : ¬ (sRec m = 0) := c29_2
      refine xk_push rfl (p := 33) rfl ?_
      refine xk_goto rfl ?_
      refine xk_bin rfl (p := 38) rfl (z := ((((nR m ((sCom m).toNat) : Nat) : Int) - sApp m) + 1)) (congrArg some (xadd_r (by omega) (by omega))) ?_
      refine xk_rete rfl (rfl) ?_
      exact ((if_pos c6_1).trans ((if_neg c29_2))).symm
  · replace c6_1 : ¬ (0 ≤ sCom m) := c6_1
    refine xk_push rfl (p := 10) rfl ?_
    refine xk_rete rfl (rfl) ?_
    exact ((if_neg c6_1)).symm

theorem c_isFolderOf {d : Nat} {g : xG} {t m : xD} {s : Nat} {n o : Nat} (L : xLay g) (hs : s < 3) (hI : Inv m) (hR : Rep t s m) (hn : n < nN m) (ho : o < nN m) : xCall (d) 17 [(2, (((18 + 89 * s + 5 * n) : Nat) : Int)), (2, (((18 + 89 * s + 5 * o) : Nat) : Int))] g t (xQ g t (some (0, if bFol m n o = true then (1 : Int) else 0))) := by
  show xOk (d) 17 0 [(2, (((18 + 89 * s + 5 * n) : Nat) : Int)), (2, (((18 + 89 * s + 5 * o) : Nat) : Int)), (3, 0)] [] g t _
  have iNn_ := iNn hI
  have iLn0_ := iLn hI hn
  refine xk_load rfl (p := 1) rfl rfl ?_
  refine xk_getf rfl (p := 4) rfl (xob ((ly_nm L hs (show n < 12 by omega)).1) (by decide)) (v := (0, m 295 n)) (xsl0 rfl (rPar hR (show n < nN m by omega))) ?_
  refine xk_load rfl (p := 5) rfl rfl ?_
  refine xk_getf rfl (p := 8) rfl (xob ((ly_nm L hs (show o < 12 by omega)).1) (by decide)) (v := (0, m 295 o)) (xsl0 rfl (rPar hR (show o < nN m by omega))) ?_
  refine xk_icmp rfl (p := 11) rfl (fun c8_1 => ?_) (fun c8_1 => ?_)
  · replace c8_1 : m 295 o ≤ m 295 n := c8_1
    refine xk_push rfl (p := 21) rfl ?_
    refine xk_rete rfl (rfl) ?_
    exact (if_neg (fun h => by have h := (bFol_key hI hn ho).mp h; omega)).symm
  · replace c8_1 : ¬ (m 295 o ≤ m 295 n) := c8_1
    refine xk_load rfl (p := 12) rfl rfl ?_
    refine xk_getf rfl (p := 15) rfl (xob ((ly_nm L hs (show n < 12 by omega)).1) (by decide)) (v := (0, ((nL m n : Nat) : Int))) (xsl0 rfl ((rLen hR (show n < nN m by omega)).trans (iLn hI (show n < nN m by omega)).1)) ?_
    have iLn_ := iLn hI (show n < nN m by omega)
    refine xk_push rfl (p := 17) rfl ?_
    refine xk_icmp rfl (p := 20) rfl (fun c17_2 => ?_) (fun c17_2 => ?_)
    · replace c17_2 : ((nL m n : Nat) : Int) < 8 := c17_2
      refine xk_push rfl (p := 24) rfl ?_
      refine xk_push rfl (p := 26) rfl ?_
      refine xk_load rfl (p := 27) rfl rfl ?_
      refine xk_getf rfl (p := 30) rfl (xob ((ly_nm L hs (show n < 12 by omega)).1) (by decide)) (v := (0, ((nL m n : Nat) : Int))) (xsl0 rfl ((rLen hR (show n < nN m by omega)).trans (iLn hI (show n < nN m by omega)).1)) ?_
      have iLn_ := iLn hI (show n < nN m by omega)
      refine xk_bin rfl (p := 31) rfl (z := (8 - ((nL m n : Nat) : Int))) (congrArg some (xsub_r (by omega) (by omega))) ?_
      refine xk_push rfl (p := 32) rfl ?_
      refine xk_bin rfl (p := 33) rfl (z := ((8 - ((nL m n : Nat) : Int)) - 1)) (congrArg some (xsub_r (by omega) (by omega))) ?_
      refine xk_bin rfl (p := 34) rfl (z := (8 * ((8 - ((nL m n : Nat) : Int)) - 1))) (congrArg some (xmul_r (by omega) (by omega))) ?_
      refine xk_store rfl (p := 35) rfl (by decide) (Nat.le_of_ble_eq_true rfl) (ls' := [(2, (((18 + 89 * s + 5 * n) : Nat) : Int)), (2, (((18 + 89 * s + 5 * o) : Nat) : Int)), (0, (8 * ((8 - ((nL m n : Nat) : Int)) - 1)))]) rfl ?_
      refine xk_load rfl (p := 36) rfl rfl ?_
      refine xk_getf rfl (p := 39) rfl (xob ((ly_nm L hs (show o < 12 by omega)).1) (by decide)) (v := (1, kK m o)) (xsl1 rfl (rKey hR (show o < nN m by omega))) ?_
      refine xk_load rfl (p := 40) rfl rfl ?_
      refine xk_lbin rfl (p := 41) rfl rfl (w := (1, kP m o (nL m n + 1))) (congrArg (fun z => some ((1, z) : xV)) (key_up hI ho (i := nL m n + 1) (by omega) (by omega) (by omega))) ?_
      refine xk_load rfl (p := 42) rfl rfl ?_
      refine xk_getf rfl (p := 45) rfl (xob ((ly_nm L hs (show n < 12 by omega)).1) (by decide)) (v := (1, kK m n)) (xsl1 rfl (rKey hR (show n < nN m by omega))) ?_
      refine xk_load rfl (p := 46) rfl rfl ?_
      refine xk_lbin rfl (p := 47) rfl rfl (w := (1, (kP m n (nL m n) * 256))) (congrArg (fun z => some ((1, z) : xV)) ((key_up hI hn (i := nL m n + 1) (by omega) (by omega) (by omega)).trans (by rw [kP_succ, dg_ge hI hn (Nat.le_refl _)]; omega))) ?_
      refine xk_push rfl (p := 50) rfl ?_
      refine xk_lbin rfl (p := 51) rfl rfl (w := (1, (kP m n (nL m n) * 256 + 47))) (congrArg (fun z => some ((1, z) : xV)) (key_sl hI hn (by omega))) ?_
      have xl := @xlcmp_c (kP m o (nL m n + 1)) (kP m n (nL m n) * 256 + 47)
      refine xk_lbin rfl (p := 52) rfl rfl (w := (0, xlcmp (kP m o (nL m n + 1)) (kP m n (nL m n) * 256 + 47))) (rfl) ?_
      refine xk_if rfl (p := 55) rfl (fun c52_3 => ?_) (fun c52_3 => ?_)
      · replace c52_3 : ¬ (xlcmp (kP m o (nL m n + 1)) (kP m n (nL m n) * 256 + 47) = 0) := c52_3
        refine xk_push rfl (p := 60) rfl ?_
        refine xk_rete rfl (rfl) ?_
        exact (if_neg (fun h => by have h := (bFol_key hI hn ho).mp h; omega)).symm
      · replace c52_3 : xlcmp (kP m o (nL m n + 1)) (kP m n (nL m n) * 256 + 47) = 0 := Decidable.not_not.mp c52_3
        refine xk_push rfl (p := 56) rfl ?_
        refine xk_goto rfl ?_
        refine xk_rete rfl (rfl) ?_
        exact (if_pos ((bFol_key hI hn ho).mpr ⟨by omega, by omega, by omega⟩)).symm
    · replace c17_2 : ¬ (((nL m n : Nat) : Int) < 8) := c17_2
      refine xk_push rfl (p := 21) rfl ?_
      refine xk_rete rfl (rfl) ?_
      exact (if_neg (fun h => by have h := (bFol_key hI hn ho).mp h; omega)).symm

theorem c_namesUnder {d : Nat} {g : xG} {t m : xD} {s : Nat} {n : Nat} (L : xLay g) (hs : s < 3) (hI : Inv m) (hR : Rep t s m) (hn : n < nN m) : xCall (d + 1) 35 [(2, (((5 + 89 * s) : Nat) : Int)), (0, ((n : Nat) : Int))] g t (xQ g t (some (0, ((xbs (fun i => bFol m n i) (nN m) : Nat) : Int)))) := by
  show xOk (d + 1) 35 0 [(2, (((5 + 89 * s) : Nat) : Int)), (0, ((n : Nat) : Int)), (3, 0), (3, 0)] [] g t _
  have iNn_ := iNn hI
  refine xk_push rfl (p := 1) rfl ?_
  refine xk_store rfl (p := 2) rfl (by decide) (Nat.le_of_ble_eq_true rfl) (ls' := [(2, (((5 + 89 * s) : Nat) : Int)), (0, ((n : Nat) : Int)), (0, 0), (3, 0)]) rfl ?_
  refine xk_push rfl (p := 3) rfl ?_
  refine xk_store rfl (p := 4) rfl (by decide) (Nat.le_of_ble_eq_true rfl) (ls' := [(2, (((5 + 89 * s) : Nat) : Int)), (0, ((n : Nat) : Int)), (0, 0), (0, 0)]) rfl ?_
  have lp1 : ∀ k : Nat, k ≤ nN m → ∀ (z : Nat), (z = xbs (fun i => bFol m n i) k) → xOk (d + 1) 35 4 [(2, (((5 + 89 * s) : Nat) : Int)), (0, ((n : Nat) : Int)), (0, ((z : Nat) : Int)), (0, ((k : Nat) : Int))] [] g t (xQ g t (some (0, ((xbs (fun i => bFol m n i) (nN m) : Nat) : Int)))) := by
    refine xk_up (nN m) (fun k hkk ih1 z hi1 => ?_)
    have hz : z < 4096 := hi1 ▸ xbs_lt (by omega)
    refine xk_load rfl (p := 5) rfl rfl ?_
    refine xk_load rfl (p := 6) rfl rfl ?_
    refine xk_getf rfl (p := 9) rfl (xob (ly_st L hs) (by decide)) (v := (0, ((nN m : Nat) : Int))) (xsl0 rfl (rNn hR hI)) ?_
    have iNn_ := iNn hI
    refine xk_icmp rfl (p := 12) rfl (fun c9_2 => ?_) (fun c9_2 => ?_)
    · replace c9_2 : ((nN m : Nat) : Int) ≤ ((k : Nat) : Int) := c9_2
      refine xk_load rfl (p := 43) rfl rfl ?_
      refine xk_rete rfl (rfl) ?_
      rw [hi1, show k = nN m by omega]
    · replace c9_2 : ¬ (((nN m : Nat) : Int) ≤ ((k : Nat) : Int)) := c9_2
      refine xk_load rfl (p := 13) rfl rfl ?_
      refine xk_getf rfl (p := 16) rfl (xob (ly_st L hs) (by decide)) (v := (2, (((6 + 89 * s) : Nat) : Int))) (xsl2 rfl (ly_s0 L hs)) ?_
      refine xk_load rfl (p := 17) rfl rfl ?_
      refine xk_ald rfl (p := 18) rfl (v := (2, (((18 + 89 * s + 5 * n) : Nat) : Int))) (xal2 (ly_sn L hs) (by decide) (show n < 12 by omega) (ly_ne L hs (show n < 12 by omega))) ?_
      refine xk_load rfl (p := 19) rfl rfl ?_
      refine xk_getf rfl (p := 22) rfl (xob (ly_st L hs) (by decide)) (v := (2, (((6 + 89 * s) : Nat) : Int))) (xsl2 rfl (ly_s0 L hs)) ?_
      refine xk_load rfl (p := 23) rfl rfl ?_
      refine xk_ald rfl (p := 24) rfl (v := (2, (((18 + 89 * s + 5 * k) : Nat) : Int))) (xal2 (ly_sn L hs) (by decide) (show k < 12 by omega) (ly_ne L hs (show k < 12 by omega))) ?_
      refine xk_callp rfl (p := 27) rfl (by decide) rfl (Nat.le_of_ble_eq_true rfl) (Nat.le_of_ble_eq_true rfl) (xrv ((ly_nm L hs (show n < 12 by omega)).1) (by decide)) (as := [(2, (((18 + 89 * s + 5 * n) : Nat) : Int)), (2, (((18 + 89 * s + 5 * k) : Nat) : Int))]) (r := []) rfl (v := (0, (if bFol m n k = true then (1 : Int) else 0))) (c_isFolderOf L hs hI hR (show n < nN m by omega) (show k < nN m by omega)) ?_
      refine xk_if rfl (p := 30) rfl (fun c27_3 => ?_) (fun c27_3 => ?_)
      · replace c27_3 : ¬ (bFol m n k = true) := xb_e0 c27_3
        refine xk_inc1 rfl (p := 39) rfl (n := k) rfl (by omega) (ls' := [(2, (((5 + 89 * s) : Nat) : Int)), (0, ((n : Nat) : Int)), (0, ((z : Nat) : Int)), (0, ((k + 1 : Nat) : Int))]) rfl ?_
        refine xk_goto rfl ?_
        exact ih1 (by omega) z (by first | exact xbs_in hi1 (by assumption) | exact xbs_out hi1 (by assumption))
      · replace c27_3 : bFol m n k = true := xb_n0 c27_3
        refine xk_load rfl (p := 31) rfl rfl ?_
        refine xk_push rfl (p := 32) rfl ?_
        refine xk_load rfl (p := 33) rfl rfl ?_
        refine xk_bin rfl (p := 34) rfl (z := ((2 ^ k : Nat) : Int)) (congrArg some (xshl_n (by omega))) ?_
        refine xk_bin rfl (p := 35) rfl (z := ((z ||| (2 ^ k) : Nat) : Int)) (congrArg some (xor_s (by omega) (p12 (by omega)))) ?_
        refine xk_store rfl (p := 36) rfl (by decide) (Nat.le_of_ble_eq_true rfl) (ls' := [(2, (((5 + 89 * s) : Nat) : Int)), (0, ((n : Nat) : Int)), (0, ((z ||| (2 ^ k) : Nat) : Int)), (0, ((k : Nat) : Int))]) rfl ?_
        refine xk_inc1 rfl (p := 39) rfl (n := k) rfl (by omega) (ls' := [(2, (((5 + 89 * s) : Nat) : Int)), (0, ((n : Nat) : Int)), (0, ((z ||| (2 ^ k) : Nat) : Int)), (0, ((k + 1 : Nat) : Int))]) rfl ?_
        refine xk_goto rfl ?_
        exact ih1 (by omega) (z ||| (2 ^ k)) (by first | exact xbs_in hi1 (by assumption) | exact xbs_out hi1 (by assumption))
  exact lp1 0 (by omega) 0 (by rfl)

/-- the names of a deal's rows (but those that take away, where b is not 0) -/
def nRw (m : xD) (d : Nat) (b : Int) : Nat := xors (fun i => if b = 0 ∨ ¬ m 303 (12 * d + 8 + i) = 0 then 2 ^ (m 303 (12 * d + i)).toNat else 0) (nR m d)
theorem nRw_lt' {m : xD} (hI : Inv m) {d : Nat} {b : Int} (hd : d < 4) (hk : 0 < m 300 d) : ∀ k, k ≤ nR m d → xors (fun i => if b = 0 ∨ ¬ m 303 (12 * d + 8 + i) = 0 then 2 ^ (m 303 (12 * d + i)).toNat else 0) k < 4096 := fun k hk2 => xors_lt (n := 12) k (fun i hi => by
  have := iRo hI hd hk (r := i) (by omega)
  have := iNn hI
  show (if b = 0 ∨ ¬ m 303 (12 * d + 8 + i) = 0 then 2 ^ (m 303 (12 * d + i)).toNat else 0) < 2 ^ 12
  split
  · exact p12 (by omega)
  · decide)
theorem nRw_lt {m : xD} (hI : Inv m) {d : Nat} {b : Int} (hd : d < 4) (hk : 0 < m 300 d) : nRw m d b < 4096 := nRw_lt' hI hd hk _ (Nat.le_refl _)
theorem nRw_bit {m : xD} {d : Nat} {b : Int} {j : Nat} : (nRw m d b).testBit j = true ↔ ∃ i, i < nR m d ∧ (b = 0 ∨ ¬ m 303 (12 * d + 8 + i) = 0) ∧ (m 303 (12 * d + i)).toNat = j := by
  unfold nRw
  rw [xors_bit]
  constructor
  · rintro ⟨i, hi, h⟩
    by_cases c : b = 0 ∨ ¬ m 303 (12 * d + 8 + i) = 0
    · simp only [if_pos c, Nat.testBit_two_pow, decide_eq_true_iff] at h
      exact ⟨i, hi, c, h⟩
    · simp only [if_neg c, Nat.zero_testBit] at h
      cases h
  · rintro ⟨i, hi, c, h⟩
    exact ⟨i, hi, by simp only [if_pos c, h, Nat.testBit_two_pow_self]⟩
theorem c_namesIn {d : Nat} {g : xG} {t m : xD} {s : Nat} {n : Nat} {b : Int} (L : xLay g) (hs : s < 3) (hI : Inv m) (hR : Rep t s m) (hn : n < 4) (hk : 0 < m 300 n) : xCall (d) 6 [(2, (((78 + 89 * s + 4 * n) : Nat) : Int)), (0, b)] g t (xQ g t (some (0, ((nRw m n b : Nat) : Int)))) := by
  show xOk (d) 6 0 [(2, (((78 + 89 * s + 4 * n) : Nat) : Int)), (0, b), (3, 0), (3, 0)] [] g t _
  have iNn_ := iNn hI
  have iRn_ := iRn hI hn
  refine xk_push rfl (p := 1) rfl ?_
  refine xk_store rfl (p := 2) rfl (by decide) (Nat.le_of_ble_eq_true rfl) (ls' := [(2, (((78 + 89 * s + 4 * n) : Nat) : Int)), (0, b), (0, 0), (3, 0)]) rfl ?_
  refine xk_push rfl (p := 3) rfl ?_
  refine xk_store rfl (p := 4) rfl (by decide) (Nat.le_of_ble_eq_true rfl) (ls' := [(2, (((78 + 89 * s + 4 * n) : Nat) : Int)), (0, b), (0, 0), (0, 0)]) rfl ?_
  have lp1 : ∀ k : Nat, k ≤ nR m n → ∀ (z : Nat), (z = xors (fun i => if b = 0 ∨ ¬ m 303 (12 * n + 8 + i) = 0 then 2 ^ (m 303 (12 * n + i)).toNat else 0) k) → xOk (d) 6 4 [(2, (((78 + 89 * s + 4 * n) : Nat) : Int)), (0, b), (0, ((z : Nat) : Int)), (0, ((k : Nat) : Int))] [] g t (xQ g t (some (0, ((nRw m n b : Nat) : Int)))) := by
    refine xk_up (nR m n) (fun k hkk ih1 z hi1 => ?_)
    have hz : z < 4096 := hi1 ▸ nRw_lt' hI hn hk k (by omega)
    refine xk_load rfl (p := 5) rfl rfl ?_
    refine xk_load rfl (p := 6) rfl rfl ?_
    refine xk_getf rfl (p := 9) rfl (xob ((ly_dl L hs (show n < 4 by omega)).1) (by decide)) (v := (0, ((nR m n : Nat) : Int))) (xsl0 rfl ((rRow hR (show n < 4 by omega) (show 0 < m 300 n by omega)).trans (iRn hI (show n < 4 by omega)).1)) ?_
    have iRn_ := iRn hI (show n < 4 by omega)
    refine xk_icmp rfl (p := 12) rfl (fun c9_2 => ?_) (fun c9_2 => ?_)
    · replace c9_2 : ((nR m n : Nat) : Int) ≤ ((k : Nat) : Int) := c9_2
      refine xk_load rfl (p := 43) rfl rfl ?_
      refine xk_rete rfl (rfl) ?_
      rw [hi1, show k = nR m n by omega]
      rfl
    · replace c9_2 : ¬ (((nR m n : Nat) : Int) ≤ ((k : Nat) : Int)) := c9_2
      refine xk_load rfl (p := 13) rfl rfl ?_
      refine xk_if rfl (p := 16) rfl (fun c13_3 => ?_) (fun c13_3 => ?_)
      · replace c13_3 : b = 0 := c13_3
        refine xk_load rfl (p := 26) rfl rfl ?_
        refine xk_push rfl (p := 27) rfl ?_
        refine xk_load rfl (p := 28) rfl rfl ?_
        refine xk_getf rfl (p := 31) rfl (xob ((ly_dl L hs (show n < 4 by omega)).1) (by decide)) (v := (2, ((((78 + 89 * s + 4 * n) + 1) : Nat) : Int))) (xsl2 rfl ((ly_dl L hs (show n < 4 by omega)).2.2.2.2.1)) ?_
        refine xk_load rfl (p := 32) rfl rfl ?_
        refine xk_ald rfl (p := 33) rfl (v := (0, m 303 (12 * n + k))) ((xal0 ((ly_dl L hs (show n < 4 by omega)).2.1) (show k < 4 by omega)).trans (congrArg (fun z => some (0, z)) (rR1 hR (show n < 4 by omega) (show 0 < m 300 n by omega) (show ((k : Nat) : Int) < m 301 n by omega)))) ?_
        have iRo_ := iRo hI (show n < 4 by omega) (show 0 < m 300 n by omega) (show k < nR m n by omega)
        refine xk_bin rfl (p := 34) rfl (z := ((2 ^ (m 303 (12 * n + k)).toNat : Nat) : Int)) (congrArg some (xshl_t (by omega) (by omega))) ?_
        refine xk_bin rfl (p := 35) rfl (z := ((z ||| (2 ^ (m 303 (12 * n + k)).toNat) : Nat) : Int)) (congrArg some (xor_s (by omega) (p12 (by omega)))) ?_
        refine xk_store rfl (p := 36) rfl (by decide) (Nat.le_of_ble_eq_true rfl) (ls' := [(2, (((78 + 89 * s + 4 * n) : Nat) : Int)), (0, b), (0, ((z ||| (2 ^ (m 303 (12 * n + k)).toNat) : Nat) : Int)), (0, ((k : Nat) : Int))]) rfl ?_
        refine xk_inc1 rfl (p := 39) rfl (n := k) rfl (by omega) (ls' := [(2, (((78 + 89 * s + 4 * n) : Nat) : Int)), (0, b), (0, ((z ||| (2 ^ (m 303 (12 * n + k)).toNat) : Nat) : Int)), (0, ((k + 1 : Nat) : Int))]) rfl ?_
        refine xk_goto rfl ?_
        exact ih1 (by omega) (z ||| (2 ^ (m 303 (12 * n + k)).toNat)) (by first | exact xors_in hi1 (if_pos (by omega)) | exact xors_out hi1 (if_neg (by omega)))
      · replace c13_3 : ¬ (b = 0) := c13_3
        refine xk_load rfl (p := 17) rfl rfl ?_
        refine xk_getf rfl (p := 20) rfl (xob ((ly_dl L hs (show n < 4 by omega)).1) (by decide)) (v := (2, ((((78 + 89 * s + 4 * n) + 3) : Nat) : Int))) (xsl2 rfl ((ly_dl L hs (show n < 4 by omega)).2.2.2.2.2.2)) ?_
        refine xk_load rfl (p := 21) rfl rfl ?_
        refine xk_ald rfl (p := 22) rfl (v := (0, m 303 (12 * n + 8 + k))) ((xal0 ((ly_dl L hs (show n < 4 by omega)).2.2.2.1) (show k < 4 by omega)).trans (congrArg (fun z => some (0, z)) (rR3 hR (show n < 4 by omega) (show 0 < m 300 n by omega) (show ((k : Nat) : Int) < m 301 n by omega)))) ?_
        refine xk_if rfl (p := 25) rfl (fun c22_4 => ?_) (fun c22_4 => ?_)
        · replace c22_4 : m 303 (12 * n + 8 + k) = 0 := c22_4
          refine xk_inc1 rfl (p := 39) rfl (n := k) rfl (by omega) (ls' := [(2, (((78 + 89 * s + 4 * n) : Nat) : Int)), (0, b), (0, ((z : Nat) : Int)), (0, ((k + 1 : Nat) : Int))]) rfl ?_
          refine xk_goto rfl ?_
          exact ih1 (by omega) z (by first | exact xors_in hi1 (if_pos (by omega)) | exact xors_out hi1 (if_neg (by omega)))
        · replace c22_4 : ¬ (m 303 (12 * n + 8 + k) = 0) := c22_4
          refine xk_load rfl (p := 26) rfl rfl ?_
          refine xk_push rfl (p := 27) rfl ?_
          refine xk_load rfl (p := 28) rfl rfl ?_
          refine xk_getf rfl (p := 31) rfl (xob ((ly_dl L hs (show n < 4 by omega)).1) (by decide)) (v := (2, ((((78 + 89 * s + 4 * n) + 1) : Nat) : Int))) (xsl2 rfl ((ly_dl L hs (show n < 4 by omega)).2.2.2.2.1)) ?_
          refine xk_load rfl (p := 32) rfl rfl ?_
          refine xk_ald rfl (p := 33) rfl (v := (0, m 303 (12 * n + k))) ((xal0 ((ly_dl L hs (show n < 4 by omega)).2.1) (show k < 4 by omega)).trans (congrArg (fun z => some (0, z)) (rR1 hR (show n < 4 by omega) (show 0 < m 300 n by omega) (show ((k : Nat) : Int) < m 301 n by omega)))) ?_
          have iRo_ := iRo hI (show n < 4 by omega) (show 0 < m 300 n by omega) (show k < nR m n by omega)
          refine xk_bin rfl (p := 34) rfl (z := ((2 ^ (m 303 (12 * n + k)).toNat : Nat) : Int)) (congrArg some (xshl_t (by omega) (by omega))) ?_
          refine xk_bin rfl (p := 35) rfl (z := ((z ||| (2 ^ (m 303 (12 * n + k)).toNat) : Nat) : Int)) (congrArg some (xor_s (by omega) (p12 (by omega)))) ?_
          refine xk_store rfl (p := 36) rfl (by decide) (Nat.le_of_ble_eq_true rfl) (ls' := [(2, (((78 + 89 * s + 4 * n) : Nat) : Int)), (0, b), (0, ((z ||| (2 ^ (m 303 (12 * n + k)).toNat) : Nat) : Int)), (0, ((k : Nat) : Int))]) rfl ?_
          refine xk_inc1 rfl (p := 39) rfl (n := k) rfl (by omega) (ls' := [(2, (((78 + 89 * s + 4 * n) : Nat) : Int)), (0, b), (0, ((z ||| (2 ^ (m 303 (12 * n + k)).toNat) : Nat) : Int)), (0, ((k + 1 : Nat) : Int))]) rfl ?_
          refine xk_goto rfl ?_
          exact ih1 (by omega) (z ||| (2 ^ (m 303 (12 * n + k)).toNat)) (by first | exact xors_in hi1 (if_pos (by omega)) | exact xors_out hi1 (if_neg (by omega)))
  exact lp1 0 (by omega) 0 (by rfl)

/-- the names in other deals' rows that lock -/
def nOth (m : xD) (x b : Int) : Nat := xors (fun d => if ¬ ((d : Nat) : Int) = x ∧ 0 < m 300 d ∧ ¬ m 302 d = 0 then nRw m d b else 0) 4
theorem nOth_lt' {m : xD} (hI : Inv m) {x b : Int} : ∀ k, k ≤ 4 → xors (fun d => if ¬ ((d : Nat) : Int) = x ∧ 0 < m 300 d ∧ ¬ m 302 d = 0 then nRw m d b else 0) k < 4096 := fun k hk => xors_lt (n := 12) k (fun i hi => by
  show (if ¬ ((i : Nat) : Int) = x ∧ 0 < m 300 i ∧ ¬ m 302 i = 0 then nRw m i b else 0) < 2 ^ 12
  split
  · rename_i h
    exact nRw_lt hI (by omega) h.2.1
  · decide)
theorem nOth_lt {m : xD} (hI : Inv m) {x b : Int} : nOth m x b < 4096 := nOth_lt' hI 4 (Nat.le_refl _)
theorem nOth_bit {m : xD} {x b : Int} {j : Nat} : (nOth m x b).testBit j = true ↔ ∃ d, d < 4 ∧ (¬ ((d : Nat) : Int) = x ∧ 0 < m 300 d ∧ ¬ m 302 d = 0) ∧ ∃ i, i < nR m d ∧ (b = 0 ∨ ¬ m 303 (12 * d + 8 + i) = 0) ∧ (m 303 (12 * d + i)).toNat = j := by
  unfold nOth
  rw [xors_bit]
  constructor
  · rintro ⟨d, hd, h⟩
    by_cases c : ¬ ((d : Nat) : Int) = x ∧ 0 < m 300 d ∧ ¬ m 302 d = 0
    · simp only [if_pos c] at h
      exact ⟨d, hd, c, nRw_bit.mp h⟩
    · simp only [if_neg c, Nat.zero_testBit] at h
      cases h
  · rintro ⟨d, hd, c, h⟩
    exact ⟨d, hd, by simp only [if_pos c]; exact nRw_bit.mpr h⟩
theorem c_namesOfOthers {d : Nat} {g : xG} {t m : xD} {s : Nat} {x b : Int} (L : xLay g) (hs : s < 3) (hI : Inv m) (hR : Rep t s m)  : xCall (d + 1) 47 [(2, (((5 + 89 * s) : Nat) : Int)), (0, x), (0, b)] g t (xQ g t (some (0, ((nOth m x b : Nat) : Int)))) := by
  show xOk (d + 1) 47 0 [(2, (((5 + 89 * s) : Nat) : Int)), (0, x), (0, b), (3, 0), (3, 0), (3, 0)] [] g t _
  have iNn_ := iNn hI
  refine xk_push rfl (p := 1) rfl ?_
  refine xk_store rfl (p := 2) rfl (by decide) (Nat.le_of_ble_eq_true rfl) (ls' := [(2, (((5 + 89 * s) : Nat) : Int)), (0, x), (0, b), (0, 0), (3, 0), (3, 0)]) rfl ?_
  refine xk_push rfl (p := 3) rfl ?_
  refine xk_store rfl (p := 5) rfl (by decide) (Nat.le_of_ble_eq_true rfl) (ls' := [(2, (((5 + 89 * s) : Nat) : Int)), (0, x), (0, b), (0, 0), (0, 0), (3, 0)]) rfl ?_
  have lp1 : ∀ k : Nat, k ≤ 4 → ∀ (z : Nat) (w5 : xV), (z = xors (fun d => if ¬ ((d : Nat) : Int) = x ∧ 0 < m 300 d ∧ ¬ m 302 d = 0 then nRw m d b else 0) k) → xOk (d + 1) 47 5 [(2, (((5 + 89 * s) : Nat) : Int)), (0, x), (0, b), (0, ((z : Nat) : Int)), (0, ((k : Nat) : Int)), w5] [] g t (xQ g t (some (0, ((nOth m x b : Nat) : Int)))) := by
    refine xk_up 4 (fun k hkk ih1 z w5 hi1 => ?_)
    have hz : z < 4096 := hi1 ▸ nOth_lt' hI k (by omega)
    refine xk_load rfl (p := 7) rfl rfl ?_
    refine xk_push rfl (p := 8) rfl ?_
    refine xk_icmp rfl (p := 11) rfl (fun c8_2 => ?_) (fun c8_2 => ?_)
    · replace c8_2 : 4 ≤ ((k : Nat) : Int) := c8_2
      refine xk_load rfl (p := 78) rfl rfl ?_
      refine xk_rete rfl (rfl) ?_
      rw [hi1, show k = 4 by omega]
      rfl
    · replace c8_2 : ¬ (4 ≤ ((k : Nat) : Int)) := c8_2
      refine xk_load rfl (p := 12) rfl rfl ?_
      refine xk_getf rfl (p := 15) rfl (xob (ly_st L hs) (by decide)) (v := (2, (((7 + 89 * s) : Nat) : Int))) (xsl2 rfl (ly_s1 L hs)) ?_
      refine xk_load rfl (p := 17) rfl rfl ?_
      refine xk_ald rfl (p := 18) rfl (v := (2, (((78 + 89 * s + 4 * k) : Nat) : Int))) (xal2 (ly_sd L hs) (by decide) (show k < 4 by omega) (ly_de L hs (show k < 4 by omega))) ?_
      refine xk_getf rfl (p := 21) rfl (xob ((ly_dl L hs (show k < 4 by omega)).1) (by decide)) (v := (0, sPha m k)) (xsl0 rfl (rPha hR (show k < 4 by omega))) ?_
      have sPha_ := sPha_c hI (show k < 4 by omega)
      refine xk_push rfl (p := 22) rfl ?_
      refine xk_icmp rfl (p := 25) rfl (fun c22_3 => ?_) (fun c22_3 => ?_)
      · replace c22_3 : sPha m k = 1 := c22_3
        refine xk_push rfl (p := 40) rfl ?_
        refine xk_goto rfl ?_
        refine xk_store rfl (p := 46) rfl (by decide) (Nat.le_of_ble_eq_true rfl) (ls' := [(2, (((5 + 89 * s) : Nat) : Int)), (0, x), (0, b), (0, ((z : Nat) : Int)), (0, ((k : Nat) : Int)), (0, 1)]) rfl ?_
        refine xk_load rfl (p := 48) rfl rfl ?_
        refine xk_load rfl (p := 49) rfl rfl ?_
        refine xk_icmp rfl (p := 52) rfl (fun c49_4 => ?_) (fun c49_4 => ?_)
        · replace c49_4 : ((k : Nat) : Int) = x := c49_4
          refine xk_inc1 rfl (p := 74) rfl (n := k) rfl (by omega) (ls' := [(2, (((5 + 89 * s) : Nat) : Int)), (0, x), (0, b), (0, ((z : Nat) : Int)), (0, ((k + 1 : Nat) : Int)), (0, 1)]) rfl ?_
          refine xk_goto rfl ?_
          exact ih1 (by omega) z (0, 1) (by first | exact xors_in hi1 (if_pos (by omega)) | exact xors_out hi1 (if_neg (by omega)))
        · replace c49_4 : ¬ (((k : Nat) : Int) = x) := c49_4
          refine xk_load rfl (p := 54) rfl rfl ?_
          refine xk_if rfl (p := 57) rfl (fun c54_5 => absurd c54_5 (show ¬ ((1 : Int) = (0 : Int)) by decide)) (fun c54_5 => ?_)
          refine xk_load rfl (p := 58) rfl rfl ?_
          refine xk_load rfl (p := 59) rfl rfl ?_
          refine xk_getf rfl (p := 62) rfl (xob (ly_st L hs) (by decide)) (v := (2, (((7 + 89 * s) : Nat) : Int))) (xsl2 rfl (ly_s1 L hs)) ?_
          refine xk_load rfl (p := 64) rfl rfl ?_
          refine xk_ald rfl (p := 65) rfl (v := (2, (((78 + 89 * s + 4 * k) : Nat) : Int))) (xal2 (ly_sd L hs) (by decide) (show k < 4 by omega) (ly_de L hs (show k < 4 by omega))) ?_
          refine xk_load rfl (p := 66) rfl rfl ?_
          refine xk_callp rfl (p := 69) rfl (by decide) rfl (Nat.le_of_ble_eq_true rfl) (Nat.le_of_ble_eq_true rfl) (xrv ((ly_dl L hs (show k < 4 by omega)).1) (by decide)) (as := [(2, (((78 + 89 * s + 4 * k) : Nat) : Int)), (0, b)]) (r := [(0, ((z : Nat) : Int))]) rfl (v := (0, ((nRw m k b : Nat) : Int))) (c_namesIn L hs hI hR (show k < 4 by omega) (show 0 < m 300 k by omega)) ?_
          have nRw_ := nRw_lt hI (b := b) (show k < 4 by omega) (show 0 < m 300 k by omega)
          refine xk_bin rfl (p := 70) rfl (z := ((z ||| (nRw m k b) : Nat) : Int)) (congrArg some (xor_s (by omega) (by omega))) ?_
          refine xk_store rfl (p := 71) rfl (by decide) (Nat.le_of_ble_eq_true rfl) (ls' := [(2, (((5 + 89 * s) : Nat) : Int)), (0, x), (0, b), (0, ((z ||| (nRw m k b) : Nat) : Int)), (0, ((k : Nat) : Int)), (0, 1)]) rfl ?_
          refine xk_inc1 rfl (p := 74) rfl (n := k) rfl (by omega) (ls' := [(2, (((5 + 89 * s) : Nat) : Int)), (0, x), (0, b), (0, ((z ||| (nRw m k b) : Nat) : Int)), (0, ((k + 1 : Nat) : Int)), (0, 1)]) rfl ?_
          refine xk_goto rfl ?_
          exact ih1 (by omega) (z ||| (nRw m k b)) (0, 1) (by first | exact xors_in hi1 (if_pos (by omega)) | exact xors_out hi1 (if_neg (by omega)))
      · replace c22_3 : ¬ (sPha m k = 1) := c22_3
        refine xk_load rfl (p := 26) rfl rfl ?_
        refine xk_getf rfl (p := 29) rfl (xob (ly_st L hs) (by decide)) (v := (2, (((7 + 89 * s) : Nat) : Int))) (xsl2 rfl (ly_s1 L hs)) ?_
        refine xk_load rfl (p := 31) rfl rfl ?_
        refine xk_ald rfl (p := 32) rfl (v := (2, (((78 + 89 * s + 4 * k) : Nat) : Int))) (xal2 (ly_sd L hs) (by decide) (show k < 4 by omega) (ly_de L hs (show k < 4 by omega))) ?_
        refine xk_getf rfl (p := 35) rfl (xob ((ly_dl L hs (show k < 4 by omega)).1) (by decide)) (v := (0, sPha m k)) (xsl0 rfl (rPha hR (show k < 4 by omega))) ?_
        have sPha_ := sPha_c hI (show k < 4 by omega)
        refine xk_push rfl (p := 36) rfl ?_
        refine xk_icmp rfl (p := 39) rfl (fun c36_6 => ?_) (fun c36_6 => ?_)
        · replace c36_6 : ¬ (sPha m k = 2) := c36_6
          refine xk_push rfl (p := 44) rfl ?_
          refine xk_store rfl (p := 46) rfl (by decide) (Nat.le_of_ble_eq_true rfl) (ls' := [(2, (((5 + 89 * s) : Nat) : Int)), (0, x), (0, b), (0, ((z : Nat) : Int)), (0, ((k : Nat) : Int)), (0, 0)]) rfl ?_
          refine xk_load rfl (p := 48) rfl rfl ?_
          refine xk_load rfl (p := 49) rfl rfl ?_
          refine xk_icmp rfl (p := 52) rfl (fun c49_7 => ?_) (fun c49_7 => ?_)
          · replace c49_7 : ((k : Nat) : Int) = x := c49_7
            refine xk_inc1 rfl (p := 74) rfl (n := k) rfl (by omega) (ls' := [(2, (((5 + 89 * s) : Nat) : Int)), (0, x), (0, b), (0, ((z : Nat) : Int)), (0, ((k + 1 : Nat) : Int)), (0, 0)]) rfl ?_
            refine xk_goto rfl ?_
            exact ih1 (by omega) z (0, 0) (by first | exact xors_in hi1 (if_pos (by omega)) | exact xors_out hi1 (if_neg (by omega)))
          · replace c49_7 : ¬ (((k : Nat) : Int) = x) := c49_7
            refine xk_load rfl (p := 54) rfl rfl ?_
            refine xk_if rfl (p := 57) rfl (fun c54_8 => ?_) (fun c54_8 => absurd (show (0 : Int) = (0 : Int) by decide) c54_8)
            refine xk_inc1 rfl (p := 74) rfl (n := k) rfl (by omega) (ls' := [(2, (((5 + 89 * s) : Nat) : Int)), (0, x), (0, b), (0, ((z : Nat) : Int)), (0, ((k + 1 : Nat) : Int)), (0, 0)]) rfl ?_
            refine xk_goto rfl ?_
            exact ih1 (by omega) z (0, 0) (by first | exact xors_in hi1 (if_pos (by omega)) | exact xors_out hi1 (if_neg (by omega)))
        · replace c36_6 : sPha m k = 2 := Decidable.not_not.mp c36_6
          refine xk_push rfl (p := 40) rfl ?_
          refine xk_goto rfl ?_
          refine xk_store rfl (p := 46) rfl (by decide) (Nat.le_of_ble_eq_true rfl) (ls' := [(2, (((5 + 89 * s) : Nat) : Int)), (0, x), (0, b), (0, ((z : Nat) : Int)), (0, ((k : Nat) : Int)), (0, 1)]) rfl ?_
          refine xk_load rfl (p := 48) rfl rfl ?_
          refine xk_load rfl (p := 49) rfl rfl ?_
          refine xk_icmp rfl (p := 52) rfl (fun c49_9 => ?_) (fun c49_9 => ?_)
          · replace c49_9 : ((k : Nat) : Int) = x := c49_9
            refine xk_inc1 rfl (p := 74) rfl (n := k) rfl (by omega) (ls' := [(2, (((5 + 89 * s) : Nat) : Int)), (0, x), (0, b), (0, ((z : Nat) : Int)), (0, ((k + 1 : Nat) : Int)), (0, 1)]) rfl ?_
            refine xk_goto rfl ?_
            exact ih1 (by omega) z (0, 1) (by first | exact xors_in hi1 (if_pos (by omega)) | exact xors_out hi1 (if_neg (by omega)))
          · replace c49_9 : ¬ (((k : Nat) : Int) = x) := c49_9
            refine xk_load rfl (p := 54) rfl rfl ?_
            refine xk_if rfl (p := 57) rfl (fun c54_10 => absurd c54_10 (show ¬ ((1 : Int) = (0 : Int)) by decide)) (fun c54_10 => ?_)
            refine xk_load rfl (p := 58) rfl rfl ?_
            refine xk_load rfl (p := 59) rfl rfl ?_
            refine xk_getf rfl (p := 62) rfl (xob (ly_st L hs) (by decide)) (v := (2, (((7 + 89 * s) : Nat) : Int))) (xsl2 rfl (ly_s1 L hs)) ?_
            refine xk_load rfl (p := 64) rfl rfl ?_
            refine xk_ald rfl (p := 65) rfl (v := (2, (((78 + 89 * s + 4 * k) : Nat) : Int))) (xal2 (ly_sd L hs) (by decide) (show k < 4 by omega) (ly_de L hs (show k < 4 by omega))) ?_
            refine xk_load rfl (p := 66) rfl rfl ?_
            refine xk_callp rfl (p := 69) rfl (by decide) rfl (Nat.le_of_ble_eq_true rfl) (Nat.le_of_ble_eq_true rfl) (xrv ((ly_dl L hs (show k < 4 by omega)).1) (by decide)) (as := [(2, (((78 + 89 * s + 4 * k) : Nat) : Int)), (0, b)]) (r := [(0, ((z : Nat) : Int))]) rfl (v := (0, ((nRw m k b : Nat) : Int))) (c_namesIn L hs hI hR (show k < 4 by omega) (show 0 < m 300 k by omega)) ?_
            have nRw_ := nRw_lt hI (b := b) (show k < 4 by omega) (show 0 < m 300 k by omega)
            refine xk_bin rfl (p := 70) rfl (z := ((z ||| (nRw m k b) : Nat) : Int)) (congrArg some (xor_s (by omega) (by omega))) ?_
            refine xk_store rfl (p := 71) rfl (by decide) (Nat.le_of_ble_eq_true rfl) (ls' := [(2, (((5 + 89 * s) : Nat) : Int)), (0, x), (0, b), (0, ((z ||| (nRw m k b) : Nat) : Int)), (0, ((k : Nat) : Int)), (0, 1)]) rfl ?_
            refine xk_inc1 rfl (p := 74) rfl (n := k) rfl (by omega) (ls' := [(2, (((5 + 89 * s) : Nat) : Int)), (0, x), (0, b), (0, ((z ||| (nRw m k b) : Nat) : Int)), (0, ((k + 1 : Nat) : Int)), (0, 1)]) rfl ?_
            refine xk_goto rfl ?_
            exact ih1 (by omega) (z ||| (nRw m k b)) (0, 1) (by first | exact xors_in hi1 (if_pos (by omega)) | exact xors_out hi1 (if_neg (by omega)))
  exact lp1 0 (by omega) 0 (3, 0) (by rfl)

def nThere (m : xD) (d : Nat) (f : Nat → Int) (z2 : Nat) : Nat := xdf (z2 ||| xbs (fun n => decide (¬ f n = 0)) (nN m)) (nRw m d 0) ||| nRw m d 1
theorem nThere_lt {m : xD} (hI : Inv m) {d : Nat} {f : Nat → Int} {z2 : Nat} (hd : d < 4) (hk : 0 < m 300 d) (h2 : z2 < 4096) : nThere m d f z2 < 4096 := or_s (xdf_lt (or_s h2 (xbs_lt (iNn hI).2))) (nRw_lt hI hd hk)
theorem or_in {p : Nat → Bool} {k z y : Nat} (h : z = y ||| xbs p k) (hp : p k = true) : z ||| 2 ^ k = y ||| xbs p (k + 1) := by rw [h, Nat.or_assoc, xbs_in rfl hp]
theorem or_out {p : Nat → Bool} {k z y : Nat} (h : z = y ||| xbs p k) (hp : ¬ p k = true) : z = y ||| xbs p (k + 1) := by rw [h, ← xbs_out rfl hp]
theorem c_namesThere {d : Nat} {g : xG} {t m : xD} {s : Nat} {n q z2 : Nat} {f : Nat → Int} (L : xLay g) (hs : s < 3) (hI : Inv m) (hR : Rep t s m) (hn : n < 4) (hk : 0 < m 300 n) (hq : g.2.1 q = (20, 12)) (hf : ∀ n, n < nN m → t q n = f n) (hz2 : z2 < 4096) : xCall (d + 1) 50 [(2, (((5 + 89 * s) : Nat) : Int)), (2, (((78 + 89 * s + 4 * n) : Nat) : Int)), (2, ((q : Nat) : Int)), (0, ((z2 : Nat) : Int))] g t (xQ g t (some (0, ((nThere m n f z2 : Nat) : Int)))) := by
  show xOk (d + 1) 50 0 [(2, (((5 + 89 * s) : Nat) : Int)), (2, (((78 + 89 * s + 4 * n) : Nat) : Int)), (2, ((q : Nat) : Int)), (0, ((z2 : Nat) : Int)), (3, 0), (3, 0)] [] g t _
  have iNn_ := iNn hI
  refine xk_load rfl (p := 1) rfl rfl ?_
  refine xk_store rfl (p := 3) rfl (by decide) (Nat.le_of_ble_eq_true rfl) (ls' := [(2, (((5 + 89 * s) : Nat) : Int)), (2, (((78 + 89 * s + 4 * n) : Nat) : Int)), (2, ((q : Nat) : Int)), (0, ((z2 : Nat) : Int)), (0, ((z2 : Nat) : Int)), (3, 0)]) rfl ?_
  refine xk_push rfl (p := 4) rfl ?_
  refine xk_store rfl (p := 6) rfl (by decide) (Nat.le_of_ble_eq_true rfl) (ls' := [(2, (((5 + 89 * s) : Nat) : Int)), (2, (((78 + 89 * s + 4 * n) : Nat) : Int)), (2, ((q : Nat) : Int)), (0, ((z2 : Nat) : Int)), (0, ((z2 : Nat) : Int)), (0, 0)]) rfl ?_
  have lp1 : ∀ k : Nat, k ≤ nN m → ∀ (z : Nat), (z = z2 ||| xbs (fun n => decide (¬ f n = 0)) k) → xOk (d + 1) 50 6 [(2, (((5 + 89 * s) : Nat) : Int)), (2, (((78 + 89 * s + 4 * n) : Nat) : Int)), (2, ((q : Nat) : Int)), (0, ((z2 : Nat) : Int)), (0, ((z : Nat) : Int)), (0, ((k : Nat) : Int))] [] g t (xQ g t (some (0, ((nThere m n f z2 : Nat) : Int)))) := by
    refine xk_up (nN m) (fun k hkk ih1 z hi1 => ?_)
    have hz : z < 4096 := hi1 ▸ or_s hz2 (xbs_lt (by omega))
    refine xk_load rfl (p := 8) rfl rfl ?_
    refine xk_load rfl (p := 9) rfl rfl ?_
    refine xk_getf rfl (p := 12) rfl (xob (ly_st L hs) (by decide)) (v := (0, ((nN m : Nat) : Int))) (xsl0 rfl (rNn hR hI)) ?_
    have iNn_ := iNn hI
    refine xk_icmp rfl (p := 15) rfl (fun c12_2 => ?_) (fun c12_2 => ?_)
    · replace c12_2 : ((nN m : Nat) : Int) ≤ ((k : Nat) : Int) := c12_2
      refine xk_load rfl (p := 39) rfl rfl ?_
      refine xk_load rfl (p := 40) rfl rfl ?_
      refine xk_push rfl (p := 41) rfl ?_
      refine xk_callp rfl (p := 44) rfl (by decide) rfl (Nat.le_of_ble_eq_true rfl) (Nat.le_of_ble_eq_true rfl) (xrv ((ly_dl L hs (show n < 4 by omega)).1) (by decide)) (as := [(2, (((78 + 89 * s + 4 * n) : Nat) : Int)), (0, 0)]) (r := [(0, ((z : Nat) : Int))]) rfl (v := (0, ((nRw m n 0 : Nat) : Int))) (c_namesIn L hs hI hR (show n < 4 by omega) (show 0 < m 300 n by omega)) ?_
      have nRw_ := nRw_lt hI (b := 0) (show n < 4 by omega) (show 0 < m 300 n by omega)
      refine xk_push rfl (p := 45) rfl ?_
      refine xk_bin rfl (p := 46) rfl (z := xxor ((nRw m n 0 : Nat) : Int) (-1)) (rfl) ?_
      refine xk_bin rfl (p := 47) rfl (z := ((xdf z (nRw m n 0) : Nat) : Int)) (congrArg some (xandn_s (by omega) (by omega))) ?_
      refine xk_load rfl (p := 48) rfl rfl ?_
      refine xk_push rfl (p := 49) rfl ?_
      refine xk_callp rfl (p := 52) rfl (by decide) rfl (Nat.le_of_ble_eq_true rfl) (Nat.le_of_ble_eq_true rfl) (xrv ((ly_dl L hs (show n < 4 by omega)).1) (by decide)) (as := [(2, (((78 + 89 * s + 4 * n) : Nat) : Int)), (0, 1)]) (r := [(0, ((xdf z (nRw m n 0) : Nat) : Int))]) rfl (v := (0, ((nRw m n 1 : Nat) : Int))) (c_namesIn L hs hI hR (show n < 4 by omega) (show 0 < m 300 n by omega)) ?_
      have nRw_ := nRw_lt hI (b := 1) (show n < 4 by omega) (show 0 < m 300 n by omega)
      refine xk_bin rfl (p := 53) rfl (z := (((xdf z (nRw m n 0)) ||| (nRw m n 1) : Nat) : Int)) (congrArg some (xor_s (xdf_lt (by omega)) (by omega))) ?_
      refine xk_rete rfl (rfl) ?_
      rw [hi1, show k = nN m by omega]
      rfl
    · replace c12_2 : ¬ (((nN m : Nat) : Int) ≤ ((k : Nat) : Int)) := c12_2
      refine xk_load rfl (p := 16) rfl rfl ?_
      refine xk_load rfl (p := 18) rfl rfl ?_
      refine xk_ald rfl (p := 19) rfl (v := (0, f k)) ((xal0 hq (show k < 12 by omega)).trans (congrArg (fun z => some (0, z)) ((hf k (show k < nN m by omega))))) ?_
      refine xk_if rfl (p := 22) rfl (fun c19_3 => ?_) (fun c19_3 => ?_)
      · replace c19_3 : f k = 0 := c19_3
        refine xk_inc1 rfl (p := 34) rfl (n := k) rfl (by omega) (ls' := [(2, (((5 + 89 * s) : Nat) : Int)), (2, (((78 + 89 * s + 4 * n) : Nat) : Int)), (2, ((q : Nat) : Int)), (0, ((z2 : Nat) : Int)), (0, ((z : Nat) : Int)), (0, ((k + 1 : Nat) : Int))]) rfl ?_
        refine xk_goto rfl ?_
        exact ih1 (by omega) z (by first | exact or_in hi1 (decide_eq_true (by omega)) | exact or_out hi1 (fun h => by have h := of_decide_eq_true h; omega))
      · replace c19_3 : ¬ (f k = 0) := c19_3
        refine xk_load rfl (p := 24) rfl rfl ?_
        refine xk_push rfl (p := 25) rfl ?_
        refine xk_load rfl (p := 27) rfl rfl ?_
        refine xk_bin rfl (p := 28) rfl (z := ((2 ^ k : Nat) : Int)) (congrArg some (xshl_n (by omega))) ?_
        refine xk_bin rfl (p := 29) rfl (z := ((z ||| (2 ^ k) : Nat) : Int)) (congrArg some (xor_s (by omega) (p12 (by omega)))) ?_
        refine xk_store rfl (p := 31) rfl (by decide) (Nat.le_of_ble_eq_true rfl) (ls' := [(2, (((5 + 89 * s) : Nat) : Int)), (2, (((78 + 89 * s + 4 * n) : Nat) : Int)), (2, ((q : Nat) : Int)), (0, ((z2 : Nat) : Int)), (0, ((z ||| (2 ^ k) : Nat) : Int)), (0, ((k : Nat) : Int))]) rfl ?_
        refine xk_inc1 rfl (p := 34) rfl (n := k) rfl (by omega) (ls' := [(2, (((5 + 89 * s) : Nat) : Int)), (2, (((78 + 89 * s + 4 * n) : Nat) : Int)), (2, ((q : Nat) : Int)), (0, ((z2 : Nat) : Int)), (0, ((z ||| (2 ^ k) : Nat) : Int)), (0, ((k + 1 : Nat) : Int))]) rfl ?_
        refine xk_goto rfl ?_
        exact ih1 (by omega) (z ||| (2 ^ k)) (by first | exact or_in hi1 (decide_eq_true (by omega)) | exact or_out hi1 (fun h => by have h := of_decide_eq_true h; omega))
  exact lp1 0 (by omega) z2 (by exact (Nat.or_zero z2).symm)

def wB (m : xD) (d : Nat) (f : Nat → Int) (z1 T r : Nat) : Int := if z1.testBit (m 303 (12 * d + r)).toNat = true then 1 else if sAsk m d r (f (m 303 (12 * d + r)).toNat) = 0 then 2 else if m 303 (12 * d + 8 + r) = 0 then 0 else if ((sKin m (m 303 (12 * d + r)).toNat &&& T : Nat) : Int) = 0 then 0 else 3
theorem sKin_lt {m : xD} (hI : Inv m) {n : Nat} : sKin m n < 4096 := by
  have h : sKin m n = xbs (fun j => bCla m n j) (nN m) := by
    unfold sKin xbits xbs
    generalize nN m = K
    induction K with
    | zero => rfl
    | succ K ih =>
      show xsum _ K + _ = xors _ K ||| _
      rw [ih]
      have hb := xors_lt (f := fun i => if bCla m n i = true then 2 ^ i else 0) (n := K) K (fun i hi => by
        show (if bCla m n i = true then 2 ^ i else 0) < 2 ^ K
        split
        · exact Nat.pow_lt_pow_right (by decide) hi
        · exact Nat.two_pow_pos K)
      show _ + (if bCla m n K = true then 2 ^ K else 0) = _ ||| (if bCla m n K = true then 2 ^ K else 0)
      split
      · have := Nat.shiftLeft_add_eq_or_of_lt (i := K) hb 1
        rw [Nat.shiftLeft_eq, Nat.one_mul] at this
        rw [Nat.add_comm, this, Nat.or_comm]
      · rw [Nat.or_zero]
        rfl
  rw [h]
  exact xbs_lt (iNn hI).2
theorem c_wrongBy {d : Nat} {g : xG} {t m : xD} {s : Nat} {n q z1 z2 : Nat} {f : Nat → Int} (L : xLay g) (hs : s < 3) (hI : Inv m) (hR : Rep t s m) (hn : n < 4) (hk : 0 < m 300 n) (hq : g.2.1 q = (20, 12)) (hf : ∀ n, n < nN m → t q n = f n) (hz1 : z1 < 4096) (hz2 : z2 < 4096) : xCall (d + 2) 49 [(2, (((5 + 89 * s) : Nat) : Int)), (2, (((78 + 89 * s + 4 * n) : Nat) : Int)), (2, ((q : Nat) : Int)), (0, ((z1 : Nat) : Int)), (0, ((z2 : Nat) : Int))] g t (xQ g t (some (0, wF (wB m n f z1 (nThere m n f z2)) (nR m n)))) := by
  show xOk (d + 2) 49 0 [(2, (((5 + 89 * s) : Nat) : Int)), (2, (((78 + 89 * s + 4 * n) : Nat) : Int)), (2, ((q : Nat) : Int)), (0, ((z1 : Nat) : Int)), (0, ((z2 : Nat) : Int)), (3, 0), (3, 0), (3, 0)] [] g t _
  have iNn_ := iNn hI
  have iRn_ := iRn hI hn
  refine xk_load rfl (p := 1) rfl rfl ?_
  refine xk_load rfl (p := 2) rfl rfl ?_
  refine xk_load rfl (p := 3) rfl rfl ?_
  refine xk_load rfl (p := 5) rfl rfl ?_
  refine xk_callp rfl (p := 8) rfl (by decide) rfl (Nat.le_of_ble_eq_true rfl) (Nat.le_of_ble_eq_true rfl) (xrv (ly_st L hs) (by decide)) (as := [(2, (((5 + 89 * s) : Nat) : Int)), (2, (((78 + 89 * s + 4 * n) : Nat) : Int)), (2, ((q : Nat) : Int)), (0, ((z2 : Nat) : Int))]) (r := []) rfl (v := (0, ((nThere m n f z2 : Nat) : Int))) (c_namesThere L hs hI hR (show n < 4 by omega) (show 0 < m 300 n by omega) hq hf (hz2)) ?_
  have nThere_ := nThere_lt (f := f) hI (show n < 4 by omega) (show 0 < m 300 n by omega) (hz2)
  refine xk_store rfl (p := 10) rfl (by decide) (Nat.le_of_ble_eq_true rfl) (ls' := [(2, (((5 + 89 * s) : Nat) : Int)), (2, (((78 + 89 * s + 4 * n) : Nat) : Int)), (2, ((q : Nat) : Int)), (0, ((z1 : Nat) : Int)), (0, ((z2 : Nat) : Int)), (0, ((nThere m n f z2 : Nat) : Int)), (3, 0), (3, 0)]) rfl ?_
  refine xk_push rfl (p := 11) rfl ?_
  refine xk_store rfl (p := 13) rfl (by decide) (Nat.le_of_ble_eq_true rfl) (ls' := [(2, (((5 + 89 * s) : Nat) : Int)), (2, (((78 + 89 * s + 4 * n) : Nat) : Int)), (2, ((q : Nat) : Int)), (0, ((z1 : Nat) : Int)), (0, ((z2 : Nat) : Int)), (0, ((nThere m n f z2 : Nat) : Int)), (0, 0), (3, 0)]) rfl ?_
  have lp1 : ∀ k : Nat, k ≤ nR m n → ∀ (w7 : xV), (∀ i, i < k → ¬ 0 < wB m n f z1 (nThere m n f z2) i) → xOk (d + 2) 49 13 [(2, (((5 + 89 * s) : Nat) : Int)), (2, (((78 + 89 * s + 4 * n) : Nat) : Int)), (2, ((q : Nat) : Int)), (0, ((z1 : Nat) : Int)), (0, ((z2 : Nat) : Int)), (0, ((nThere m n f z2 : Nat) : Int)), (0, ((k : Nat) : Int)), w7] [] g t (xQ g t (some (0, wF (wB m n f z1 (nThere m n f z2)) (nR m n)))) := by
    refine xk_up (nR m n) (fun k hkk ih1  w7 hi1 => ?_)
    have sKin_ := @sKin_lt m hI (m 303 (12 * n + k)).toNat
    refine xk_load rfl (p := 15) rfl rfl ?_
    refine xk_load rfl (p := 16) rfl rfl ?_
    refine xk_getf rfl (p := 19) rfl (xob ((ly_dl L hs (show n < 4 by omega)).1) (by decide)) (v := (0, ((nR m n : Nat) : Int))) (xsl0 rfl ((rRow hR (show n < 4 by omega) (show 0 < m 300 n by omega)).trans (iRn hI (show n < 4 by omega)).1)) ?_
    have iRn_ := iRn hI (show n < 4 by omega)
    refine xk_icmp rfl (p := 22) rfl (fun c19_2 => ?_) (fun c19_2 => ?_)
    · replace c19_2 : ((nR m n : Nat) : Int) ≤ ((k : Nat) : Int) := c19_2
      refine xk_push rfl (p := 110) rfl ?_
      refine xk_rete rfl (rfl) ?_
      exact (wF_no (fun i hi => hi1 i (by omega))).symm
    · replace c19_2 : ¬ (((nR m n : Nat) : Int) ≤ ((k : Nat) : Int)) := c19_2
      refine xk_load rfl (p := 23) rfl rfl ?_
      refine xk_getf rfl (p := 26) rfl (xob ((ly_dl L hs (show n < 4 by omega)).1) (by decide)) (v := (2, ((((78 + 89 * s + 4 * n) + 1) : Nat) : Int))) (xsl2 rfl ((ly_dl L hs (show n < 4 by omega)).2.2.2.2.1)) ?_
      refine xk_load rfl (p := 28) rfl rfl ?_
      refine xk_ald rfl (p := 29) rfl (v := (0, m 303 (12 * n + k))) ((xal0 ((ly_dl L hs (show n < 4 by omega)).2.1) (show k < 4 by omega)).trans (congrArg (fun z => some (0, z)) (rR1 hR (show n < 4 by omega) (show 0 < m 300 n by omega) (show ((k : Nat) : Int) < m 301 n by omega)))) ?_
      have iRo_ := iRo hI (show n < 4 by omega) (show 0 < m 300 n by omega) (show k < nR m n by omega)
      refine xk_store rfl (p := 31) rfl (by decide) (Nat.le_of_ble_eq_true rfl) (ls' := [(2, (((5 + 89 * s) : Nat) : Int)), (2, (((78 + 89 * s + 4 * n) : Nat) : Int)), (2, ((q : Nat) : Int)), (0, ((z1 : Nat) : Int)), (0, ((z2 : Nat) : Int)), (0, ((nThere m n f z2 : Nat) : Int)), (0, ((k : Nat) : Int)), (0, m 303 (12 * n + k))]) rfl ?_
      refine xk_load rfl (p := 32) rfl rfl ?_
      refine xk_load rfl (p := 34) rfl rfl ?_
      refine xk_bin rfl (p := 35) rfl (z := xshr ((z1 : Nat) : Int) (m 303 (12 * n + k))) (rfl) ?_
      refine xk_push rfl (p := 36) rfl ?_
      refine xk_bin rfl (p := 37) rfl (z := (if z1.testBit ((m 303 (12 * n + k)).toNat) = true then (1 : Int) else 0)) (congrArg some (xbit_i (hz1) (show 0 ≤ m 303 (12 * n + k) by omega) (by omega))) ?_
      refine xk_if rfl (p := 40) rfl (fun c37_3 => ?_) (fun c37_3 => ?_)
      · replace c37_3 : ¬ (z1.testBit ((m 303 (12 * n + k)).toNat) = true) := xb_e0 c37_3
        refine xk_load rfl (p := 49) rfl rfl ?_
        refine xk_load rfl (p := 51) rfl rfl ?_
        refine xk_load rfl (p := 52) rfl rfl ?_
        refine xk_load rfl (p := 54) rfl rfl ?_
        refine xk_aldi rfl (p := 55) rfl (show 0 ≤ m 303 (12 * n + k) by omega) (v := (0, f ((m 303 (12 * n + k)).toNat))) ((xal0 hq (show (m 303 (12 * n + k)).toNat < 12 by omega)).trans (congrArg (fun z => some (0, z)) ((hf ((m 303 (12 * n + k)).toNat) (show (m 303 (12 * n + k)).toNat < nN m by omega))))) ?_
        refine xk_callp rfl (p := 58) rfl (by decide) rfl (Nat.le_of_ble_eq_true rfl) (Nat.le_of_ble_eq_true rfl) (xrv ((ly_dl L hs (show n < 4 by omega)).1) (by decide)) (as := [(2, (((78 + 89 * s + 4 * n) : Nat) : Int)), (0, ((k : Nat) : Int)), (0, f ((m 303 (12 * n + k)).toNat))]) (r := []) rfl (v := (0, sAsk m n k (f ((m 303 (12 * n + k)).toNat)))) (xCall_eq (c_isAskedFor L hs hI hR (show n < 4 by omega) (by omega) (show k < nR m n by omega)) (cAsk_eq hI (by omega) (by omega))) ?_
        refine xk_if rfl (p := 61) rfl (fun c58_4 => ?_) (fun c58_4 => ?_)
        · replace c58_4 : ¬ (sAsk m n k (f ((m 303 (12 * n + k)).toNat)) = 0) := c58_4
          refine xk_load rfl (p := 70) rfl rfl ?_
          refine xk_getf rfl (p := 73) rfl (xob ((ly_dl L hs (show n < 4 by omega)).1) (by decide)) (v := (2, ((((78 + 89 * s + 4 * n) + 3) : Nat) : Int))) (xsl2 rfl ((ly_dl L hs (show n < 4 by omega)).2.2.2.2.2.2)) ?_
          refine xk_load rfl (p := 75) rfl rfl ?_
          refine xk_ald rfl (p := 76) rfl (v := (0, m 303 (12 * n + 8 + k))) ((xal0 ((ly_dl L hs (show n < 4 by omega)).2.2.2.1) (show k < 4 by omega)).trans (congrArg (fun z => some (0, z)) (rR3 hR (show n < 4 by omega) (show 0 < m 300 n by omega) (show ((k : Nat) : Int) < m 301 n by omega)))) ?_
          refine xk_if rfl (p := 79) rfl (fun c76_5 => ?_) (fun c76_5 => ?_)
          · replace c76_5 : m 303 (12 * n + 8 + k) = 0 := c76_5
            refine xk_inc1 rfl (p := 106) rfl (n := k) rfl (by omega) (ls' := [(2, (((5 + 89 * s) : Nat) : Int)), (2, (((78 + 89 * s + 4 * n) : Nat) : Int)), (2, ((q : Nat) : Int)), (0, ((z1 : Nat) : Int)), (0, ((z2 : Nat) : Int)), (0, ((nThere m n f z2 : Nat) : Int)), (0, ((k + 1 : Nat) : Int)), (0, m 303 (12 * n + k))]) rfl ?_
            refine xk_goto rfl ?_
            exact ih1 (by omega) (0, m 303 (12 * n + k)) (by exact xall_up hi1 (by unfold wB; simp [*]))
          · replace c76_5 : ¬ (m 303 (12 * n + 8 + k) = 0) := c76_5
            refine xk_load rfl (p := 80) rfl rfl ?_
            refine xk_getf rfl (p := 83) rfl (xob (ly_st L hs) (by decide)) (v := (2, (((6 + 89 * s) : Nat) : Int))) (xsl2 rfl (ly_s0 L hs)) ?_
            refine xk_load rfl (p := 85) rfl rfl ?_
            refine xk_aldi rfl (p := 86) rfl (show 0 ≤ m 303 (12 * n + k) by omega) (v := (2, (((18 + 89 * s + 5 * ((m 303 (12 * n + k)).toNat)) : Nat) : Int))) (xal2 (ly_sn L hs) (by decide) (show (m 303 (12 * n + k)).toNat < 12 by omega) (ly_ne L hs (show (m 303 (12 * n + k)).toNat < 12 by omega))) ?_
            refine xk_getf rfl (p := 89) rfl (xob ((ly_nm L hs (show (m 303 (12 * n + k)).toNat < 12 by omega)).1) (by decide)) (v := (0, ((sKin m ((m 303 (12 * n + k)).toNat) : Nat) : Int))) (xsl0 rfl (rKin hR (show (m 303 (12 * n + k)).toNat < nN m by omega))) ?_
            refine xk_load rfl (p := 91) rfl rfl ?_
            refine xk_bin rfl (p := 92) rfl (z := (((sKin m ((m 303 (12 * n + k)).toNat)) &&& (nThere m n f z2) : Nat) : Int)) (congrArg some (xand_s (by omega) (by omega))) ?_
            refine xk_if rfl (p := 95) rfl (fun c92_6 => ?_) (fun c92_6 => ?_)
            · replace c92_6 : (((sKin m ((m 303 (12 * n + k)).toNat)) &&& (nThere m n f z2) : Nat) : Int) = 0 := c92_6
              refine xk_inc1 rfl (p := 106) rfl (n := k) rfl (by omega) (ls' := [(2, (((5 + 89 * s) : Nat) : Int)), (2, (((78 + 89 * s + 4 * n) : Nat) : Int)), (2, ((q : Nat) : Int)), (0, ((z1 : Nat) : Int)), (0, ((z2 : Nat) : Int)), (0, ((nThere m n f z2 : Nat) : Int)), (0, ((k + 1 : Nat) : Int)), (0, m 303 (12 * n + k))]) rfl ?_
              refine xk_goto rfl ?_
              exact ih1 (by omega) (0, m 303 (12 * n + k)) (by exact xall_up hi1 (by unfold wB; simp [*]))
            · replace c92_6 : ¬ ((((sKin m ((m 303 (12 * n + k)).toNat)) &&& (nThere m n f z2) : Nat) : Int) = 0) := c92_6
              refine xk_push rfl (p := 97) rfl ?_
              refine xk_load rfl (p := 99) rfl rfl ?_
              refine xk_bin rfl (p := 100) rfl (z := ((10 * k : Nat) : Int)) (congrArg some (xmul_n (n := 10) (m := k) (by omega))) ?_
              refine xk_push rfl (p := 101) rfl ?_
              refine xk_bin rfl (p := 102) rfl (z := ((10 * k + 3 : Nat) : Int)) (congrArg some (xadd_n (n := 10 * k) (m := 3) (by omega))) ?_
              refine xk_rete rfl (rfl) ?_
              exact ((wF_at (k := k) (c := 3) (by omega) hi1 (by unfold wB; rw [if_neg (by assumption), if_neg (by assumption), if_neg (by assumption), if_neg (by assumption)]) (by decide)).trans (by omega)).symm
        · replace c58_4 : sAsk m n k (f ((m 303 (12 * n + k)).toNat)) = 0 := Decidable.not_not.mp c58_4
          refine xk_push rfl (p := 63) rfl ?_
          refine xk_load rfl (p := 65) rfl rfl ?_
          refine xk_bin rfl (p := 66) rfl (z := ((10 * k : Nat) : Int)) (congrArg some (xmul_n (n := 10) (m := k) (by omega))) ?_
          refine xk_push rfl (p := 67) rfl ?_
          refine xk_bin rfl (p := 68) rfl (z := ((10 * k + 2 : Nat) : Int)) (congrArg some (xadd_n (n := 10 * k) (m := 2) (by omega))) ?_
          refine xk_rete rfl (rfl) ?_
          exact ((wF_at (k := k) (c := 2) (by omega) hi1 (by unfold wB; simp [*]) (by decide)).trans (by omega)).symm
      · replace c37_3 : z1.testBit ((m 303 (12 * n + k)).toNat) = true := xb_n0 c37_3
        refine xk_push rfl (p := 42) rfl ?_
        refine xk_load rfl (p := 44) rfl rfl ?_
        refine xk_bin rfl (p := 45) rfl (z := ((10 * k : Nat) : Int)) (congrArg some (xmul_n (n := 10) (m := k) (by omega))) ?_
        refine xk_push rfl (p := 46) rfl ?_
        refine xk_bin rfl (p := 47) rfl (z := ((10 * k + 1 : Nat) : Int)) (congrArg some (xadd_n (n := 10 * k) (m := 1) (by omega))) ?_
        refine xk_rete rfl (rfl) ?_
        exact ((wF_at (k := k) (c := 1) (by omega) hi1 (by unfold wB; simp [*]) (by decide)).trans (by omega)).symm
  exact lp1 0 (by omega) (3, 0) (by intro i h; omega)
