/-! TAPES -/
def tTz (m : xD) (x K : Nat) : xD := fun a k => if a = 318 ∧ 60 * x ≤ k ∧ k < 60 * x + K then 0 else m a k
theorem tTz_0 {m : xD} {x : Nat} : tTz m x 0 = m := by
  funext a k
  exact if_neg (by omega)
theorem Mo.tz {t m : xD} {x k p : Nat} (h : Mo t (tTz m x k)) (hp : p = 60 * x + k) : Mo (xupd t 318 p 0) (tTz m x (k + 1)) := fun a j ha => by
  subst hp
  by_cases c : a = 318 ∧ j = 60 * x + k
  · rw [c.1, c.2]
    exact xupd_eq.trans (Eq.symm (if_pos (by omega)))
  · refine (xupd_ne c).trans ((h a j ha).trans ?_)
    unfold tTz
    by_cases c2 : a = 318 ∧ 60 * x ≤ j ∧ j < 60 * x + k
    · rw [if_pos c2, if_pos (show a = 318 ∧ 60 * x ≤ j ∧ j < 60 * x + (k + 1) from ⟨c2.1, c2.2.1, by omega⟩)]
    · rw [if_neg c2, if_neg (show ¬ (a = 318 ∧ 60 * x ≤ j ∧ j < 60 * x + (k + 1)) by omega)]
def tTp (m : xD) (x : Nat) (y z : Int) : xD := tTz (xupd (xupd m 316 x y) 317 x (if y < 0 then 0 else z)) x 60
def y_tape (m : xD) (x y z : Int) : Option xV × xD := if 0 ≤ x ∧ x ≤ 5 then (if (-1 ≤ y ∧ y ≤ 4) ∧ ¬ (0 ≤ y ∧ 60 < z) then (if 0 ≤ y ∧ z < 0 then (some (0, -14), m) else (some (0, 1), tTp m x.toNat y z)) else (some (0, -2), m)) else (some (0, -1), m)
theorem n_tape {d : Nat} {g : xG} {t m : xD} {x y z : Int} (L : xLay g) (hM : Mo t m) (hI : Inv m) (hT : MT m) : xCall (d + 2) 194 [(2, ((292 : Nat) : Int)), (0, x), (0, y), (0, z)] g t (yQ g t (y_tape m x y z)) := by
  show xOk (d + 2) 194 0 [(2, ((292 : Nat) : Int)), (0, x), (0, y), (0, z), (3, 0)] [] g t _
  have iNn_ := iNn hI
  refine xk_load rfl (p := 1) rfl rfl ?_
  refine xk_callp rfl (p := 4) rfl (by decide) rfl (Nat.le_of_ble_eq_true rfl) (Nat.le_of_ble_eq_true rfl) (rfl) (as := [(0, x)]) (r := []) rfl (v := (0, (if 0 ≤ x ∧ x ≤ 5 then (1 : Int) else 0))) (n_isTape) ?_
  refine xk_if rfl (p := 7) rfl (fun c4_1 => ?_) (fun c4_1 => ?_)
  · replace c4_1 : 0 ≤ x ∧ x ≤ 5 := xb_n0 c4_1
    refine xk_load rfl (p := 10) rfl rfl ?_
    refine xk_push rfl (p := 11) rfl ?_
    refine xk_push rfl (p := 12) rfl ?_
    refine xk_callp rfl (p := 15) rfl (by decide) rfl (Nat.le_of_ble_eq_true rfl) (Nat.le_of_ble_eq_true rfl) (rfl) (as := [(0, y), (0, (-1)), (0, 4)]) (r := []) rfl (v := (0, (if (-1) ≤ y ∧ y ≤ 4 then (1 : Int) else 0))) (n_within) ?_
    refine xk_if rfl (p := 18) rfl (fun c15_2 => ?_) (fun c15_2 => ?_)
    · replace c15_2 : ¬ ((-1) ≤ y ∧ y ≤ 4) := xb_e0 c15_2
      refine xk_push rfl (p := 30) rfl ?_
      refine xk_ret rfl (rfl) ?_
      exact yRet (show y_tape m x y z = (some (0, (-2)), m) from by unfold y_tape; (repeat' split) <;> first | (exfalso; omega) | rfl) hM Md.rf
    · replace c15_2 : (-1) ≤ y ∧ y ≤ 4 := xb_n0 c15_2
      refine xk_load rfl (p := 19) rfl rfl ?_
      refine xk_if rfl (p := 22) rfl (fun c19_3 => ?_) (fun c19_3 => ?_)
      · replace c19_3 : y < 0 := c19_3
        refine xk_load rfl (p := 32) rfl rfl ?_
        refine xk_if rfl (p := 35) rfl (fun c32_4 => ?_) (fun c32_4 => ?_)
        · replace c32_4 : y < 0 := c32_4
          refine xk_load rfl (p := 43) rfl rfl ?_
          refine xk_getf rfl (p := 46) rfl (xob (ly_m L) (by decide)) (v := (2, ((316 : Nat) : Int))) (xsl2 rfl (ly_mp39 L)) ?_
          refine xk_load rfl (p := 47) rfl rfl ?_
          refine xk_load rfl (p := 48) rfl rfl ?_
          refine xk_asti rfl (p := 49) rfl (show 0 ≤ x by omega) (by decide) rfl (xsk (ly_ms39 L)) (xsn (ly_ms39 L) (show x.toNat < 6 by omega)) (by omega) ?_
          refine xk_load rfl (p := 50) rfl rfl ?_
          refine xk_getf rfl (p := 53) rfl (xob (ly_m L) (by decide)) (v := (2, ((317 : Nat) : Int))) (xsl2 rfl (ly_mp40 L)) ?_
          refine xk_load rfl (p := 54) rfl rfl ?_
          refine xk_load rfl (p := 55) rfl rfl ?_
          refine xk_if rfl (p := 58) rfl (fun c55_5 => ?_) (fun c55_5 => ?_)
          · replace c55_5 : 0 ≤ y := c55_5
            refine xk_load rfl (p := 63) rfl rfl ?_
            refine xk_asti rfl (p := 64) rfl (show 0 ≤ x by omega) (by decide) rfl (xsk (ly_ms40 L)) (xsn (ly_ms40 L) (show x.toNat < 6 by omega)) (by omega) ?_
            refine xk_push rfl (p := 65) rfl ?_
            refine xk_store rfl (p := 67) rfl (by decide) (Nat.le_of_ble_eq_true rfl) (ls' := [(2, ((292 : Nat) : Int)), (0, x), (0, y), (0, z), (0, 0)]) rfl ?_
            have lp6 : ∀ k : Nat, k ≤ 60 → ∀ (u1 : xD), (Mo u1 (tTz (xupd (xupd m 316 x.toNat y) 317 x.toNat z) x.toNat k)) → (Md t u1) → xOk (d + 2) 194 67 [(2, ((292 : Nat) : Int)), (0, x), (0, y), (0, z), (0, ((k : Nat) : Int))] [] g u1 (yQ g t (y_tape m x y z)) := by
              refine xk_up 60 (fun k hkk ih6  u1 h1_1 h1_2 => ?_)
              refine xk_load rfl (p := 69) rfl rfl ?_
              refine xk_push rfl (p := 71) rfl ?_
              refine xk_icmp rfl (p := 74) rfl (fun c71_7 => ?_) (fun c71_7 => ?_)
              · replace c71_7 : 60 ≤ ((k : Nat) : Int) := c71_7
                refine xk_push rfl (p := 94) rfl ?_
                refine xk_ret rfl (rfl) ?_
                rw [show k = 60 by omega] at h1_1
                exact yRet (by unfold y_tape tTp; rw [if_pos (by omega), if_pos (by omega), if_neg (by omega), if_neg (by omega)]) h1_1 h1_2
              · replace c71_7 : ¬ (60 ≤ ((k : Nat) : Int)) := c71_7
                refine xk_load rfl (p := 75) rfl rfl ?_
                refine xk_getf rfl (p := 78) rfl (xob (ly_m L) (by decide)) (v := (2, ((318 : Nat) : Int))) (xsl2 rfl (ly_mp41 L)) ?_
                refine xk_push rfl (p := 80) rfl ?_
                refine xk_load rfl (p := 81) rfl rfl ?_
                refine xk_bin rfl (p := 82) rfl (z := (60 * x)) (congrArg some (xmul_r (by omega) (by omega))) ?_
                refine xk_load rfl (p := 84) rfl rfl ?_
                refine xk_bin rfl (p := 85) rfl (z := ((60 * x) + ((k : Nat) : Int))) (congrArg some (xadd_r (by omega) (by omega))) ?_
                refine xk_push rfl (p := 86) rfl ?_
                refine xk_asti rfl (p := 87) rfl (show 0 ≤ ((60 * x) + ((k : Nat) : Int)) by omega) (by decide) rfl (xsk (ly_ms41 L)) (xsn (ly_ms41 L) (show ((60 * x) + ((k : Nat) : Int)).toNat < 360 by omega)) (by omega) ?_
                refine xk_inc1 rfl (p := 90) rfl (n := k) rfl (by omega) (ls' := [(2, ((292 : Nat) : Int)), (0, x), (0, y), (0, z), (0, ((k + 1 : Nat) : Int))]) rfl ?_
                refine xk_goto rfl ?_
                exact ih6 (by omega)  (xupd u1 318 (((60 * x) + ((k : Nat) : Int)).toNat) 0) (by exact h1_1.tz (by omega)) (by exact h1_2.up (by decide))
            exact lp6 0 (by omega)  (xupd (xupd t 316 (x.toNat) y) 317 (x.toNat) z) (by rw [tTz_0]; exact hM.up.up) (by exact (Md.rf.up (by decide)).up (by decide))
          · replace c55_5 : ¬ (0 ≤ y) := c55_5
            refine xk_push rfl (p := 59) rfl ?_
            refine xk_goto rfl ?_
            refine xk_asti rfl (p := 64) rfl (show 0 ≤ x by omega) (by decide) rfl (xsk (ly_ms40 L)) (xsn (ly_ms40 L) (show x.toNat < 6 by omega)) (by omega) ?_
            refine xk_push rfl (p := 65) rfl ?_
            refine xk_store rfl (p := 67) rfl (by decide) (Nat.le_of_ble_eq_true rfl) (ls' := [(2, ((292 : Nat) : Int)), (0, x), (0, y), (0, z), (0, 0)]) rfl ?_
            have lp8 : ∀ k : Nat, k ≤ 60 → ∀ (u1 : xD), (Mo u1 (tTz (xupd (xupd m 316 x.toNat y) 317 x.toNat 0) x.toNat k)) → (Md t u1) → xOk (d + 2) 194 67 [(2, ((292 : Nat) : Int)), (0, x), (0, y), (0, z), (0, ((k : Nat) : Int))] [] g u1 (yQ g t (y_tape m x y z)) := by
              refine xk_up 60 (fun k hkk ih8  u1 h1_1 h1_2 => ?_)
              refine xk_load rfl (p := 69) rfl rfl ?_
              refine xk_push rfl (p := 71) rfl ?_
              refine xk_icmp rfl (p := 74) rfl (fun c71_9 => ?_) (fun c71_9 => ?_)
              · replace c71_9 : 60 ≤ ((k : Nat) : Int) := c71_9
                refine xk_push rfl (p := 94) rfl ?_
                refine xk_ret rfl (rfl) ?_
                rw [show k = 60 by omega] at h1_1
                exact yRet (by unfold y_tape tTp; rw [if_pos (by omega), if_pos (by omega), if_neg (by omega), if_pos (by omega)]) h1_1 h1_2
              · replace c71_9 : ¬ (60 ≤ ((k : Nat) : Int)) := c71_9
                refine xk_load rfl (p := 75) rfl rfl ?_
                refine xk_getf rfl (p := 78) rfl (xob (ly_m L) (by decide)) (v := (2, ((318 : Nat) : Int))) (xsl2 rfl (ly_mp41 L)) ?_
                refine xk_push rfl (p := 80) rfl ?_
                refine xk_load rfl (p := 81) rfl rfl ?_
                refine xk_bin rfl (p := 82) rfl (z := (60 * x)) (congrArg some (xmul_r (by omega) (by omega))) ?_
                refine xk_load rfl (p := 84) rfl rfl ?_
                refine xk_bin rfl (p := 85) rfl (z := ((60 * x) + ((k : Nat) : Int))) (congrArg some (xadd_r (by omega) (by omega))) ?_
                refine xk_push rfl (p := 86) rfl ?_
                refine xk_asti rfl (p := 87) rfl (show 0 ≤ ((60 * x) + ((k : Nat) : Int)) by omega) (by decide) rfl (xsk (ly_ms41 L)) (xsn (ly_ms41 L) (show ((60 * x) + ((k : Nat) : Int)).toNat < 360 by omega)) (by omega) ?_
                refine xk_inc1 rfl (p := 90) rfl (n := k) rfl (by omega) (ls' := [(2, ((292 : Nat) : Int)), (0, x), (0, y), (0, z), (0, ((k + 1 : Nat) : Int))]) rfl ?_
                refine xk_goto rfl ?_
                exact ih8 (by omega)  (xupd u1 318 (((60 * x) + ((k : Nat) : Int)).toNat) 0) (by exact h1_1.tz (by omega)) (by exact h1_2.up (by decide))
            exact lp8 0 (by omega)  (xupd (xupd t 316 (x.toNat) y) 317 (x.toNat) 0) (by rw [tTz_0]; exact hM.up.up) (by exact (Md.rf.up (by decide)).up (by decide))
        · replace c32_4 : ¬ (y < 0) := c32_4
          refine xk_load rfl (p := 36) rfl rfl ?_
          refine xk_if rfl (p := 39) rfl (fun c36_10 => ?_) (fun c36_10 => ?_)
          · replace c36_10 : 0 ≤ z := c36_10
            refine xk_load rfl (p := 43) rfl rfl ?_
            refine xk_getf rfl (p := 46) rfl (xob (ly_m L) (by decide)) (v := (2, ((316 : Nat) : Int))) (xsl2 rfl (ly_mp39 L)) ?_
            refine xk_load rfl (p := 47) rfl rfl ?_
            refine xk_load rfl (p := 48) rfl rfl ?_
            refine xk_asti rfl (p := 49) rfl (show 0 ≤ x by omega) (by decide) rfl (xsk (ly_ms39 L)) (xsn (ly_ms39 L) (show x.toNat < 6 by omega)) (by omega) ?_
            refine xk_load rfl (p := 50) rfl rfl ?_
            refine xk_getf rfl (p := 53) rfl (xob (ly_m L) (by decide)) (v := (2, ((317 : Nat) : Int))) (xsl2 rfl (ly_mp40 L)) ?_
            refine xk_load rfl (p := 54) rfl rfl ?_
            refine xk_load rfl (p := 55) rfl rfl ?_
            refine xk_if rfl (p := 58) rfl (fun c55_11 => ?_) (fun c55_11 => ?_)
            · replace c55_11 : 0 ≤ y := c55_11
              refine xk_load rfl (p := 63) rfl rfl ?_
              refine xk_asti rfl (p := 64) rfl (show 0 ≤ x by omega) (by decide) rfl (xsk (ly_ms40 L)) (xsn (ly_ms40 L) (show x.toNat < 6 by omega)) (by omega) ?_
              refine xk_push rfl (p := 65) rfl ?_
              refine xk_store rfl (p := 67) rfl (by decide) (Nat.le_of_ble_eq_true rfl) (ls' := [(2, ((292 : Nat) : Int)), (0, x), (0, y), (0, z), (0, 0)]) rfl ?_
              have lp12 : ∀ k : Nat, k ≤ 60 → ∀ (u1 : xD), (Mo u1 (tTz (xupd (xupd m 316 x.toNat y) 317 x.toNat z) x.toNat k)) → (Md t u1) → xOk (d + 2) 194 67 [(2, ((292 : Nat) : Int)), (0, x), (0, y), (0, z), (0, ((k : Nat) : Int))] [] g u1 (yQ g t (y_tape m x y z)) := by
                refine xk_up 60 (fun k hkk ih12  u1 h1_1 h1_2 => ?_)
                refine xk_load rfl (p := 69) rfl rfl ?_
                refine xk_push rfl (p := 71) rfl ?_
                refine xk_icmp rfl (p := 74) rfl (fun c71_13 => ?_) (fun c71_13 => ?_)
                · replace c71_13 : 60 ≤ ((k : Nat) : Int) := c71_13
                  refine xk_push rfl (p := 94) rfl ?_
                  refine xk_ret rfl (rfl) ?_
                  rw [show k = 60 by omega] at h1_1
                  exact yRet (by unfold y_tape tTp; rw [if_pos (by omega), if_pos (by omega), if_neg (by omega), if_neg (by omega)]) h1_1 h1_2
                · replace c71_13 : ¬ (60 ≤ ((k : Nat) : Int)) := c71_13
                  refine xk_load rfl (p := 75) rfl rfl ?_
                  refine xk_getf rfl (p := 78) rfl (xob (ly_m L) (by decide)) (v := (2, ((318 : Nat) : Int))) (xsl2 rfl (ly_mp41 L)) ?_
                  refine xk_push rfl (p := 80) rfl ?_
                  refine xk_load rfl (p := 81) rfl rfl ?_
                  refine xk_bin rfl (p := 82) rfl (z := (60 * x)) (congrArg some (xmul_r (by omega) (by omega))) ?_
                  refine xk_load rfl (p := 84) rfl rfl ?_
                  refine xk_bin rfl (p := 85) rfl (z := ((60 * x) + ((k : Nat) : Int))) (congrArg some (xadd_r (by omega) (by omega))) ?_
                  refine xk_push rfl (p := 86) rfl ?_
                  refine xk_asti rfl (p := 87) rfl (show 0 ≤ ((60 * x) + ((k : Nat) : Int)) by omega) (by decide) rfl (xsk (ly_ms41 L)) (xsn (ly_ms41 L) (show ((60 * x) + ((k : Nat) : Int)).toNat < 360 by omega)) (by omega) ?_
                  refine xk_inc1 rfl (p := 90) rfl (n := k) rfl (by omega) (ls' := [(2, ((292 : Nat) : Int)), (0, x), (0, y), (0, z), (0, ((k + 1 : Nat) : Int))]) rfl ?_
                  refine xk_goto rfl ?_
                  exact ih12 (by omega)  (xupd u1 318 (((60 * x) + ((k : Nat) : Int)).toNat) 0) (by exact h1_1.tz (by omega)) (by exact h1_2.up (by decide))
              exact lp12 0 (by omega)  (xupd (xupd t 316 (x.toNat) y) 317 (x.toNat) z) (by rw [tTz_0]; exact hM.up.up) (by exact (Md.rf.up (by decide)).up (by decide))
            · replace c55_11 : ¬ (0 ≤ y) := c55_11
              refine xk_push rfl (p := 59) rfl ?_
              refine xk_goto rfl ?_
              refine xk_asti rfl (p := 64) rfl (show 0 ≤ x by omega) (by decide) rfl (xsk (ly_ms40 L)) (xsn (ly_ms40 L) (show x.toNat < 6 by omega)) (by omega) ?_
              refine xk_push rfl (p := 65) rfl ?_
              refine xk_store rfl (p := 67) rfl (by decide) (Nat.le_of_ble_eq_true rfl) (ls' := [(2, ((292 : Nat) : Int)), (0, x), (0, y), (0, z), (0, 0)]) rfl ?_
              have lp14 : ∀ k : Nat, k ≤ 60 → ∀ (u1 : xD), (Mo u1 (tTz (xupd (xupd m 316 x.toNat y) 317 x.toNat 0) x.toNat k)) → (Md t u1) → xOk (d + 2) 194 67 [(2, ((292 : Nat) : Int)), (0, x), (0, y), (0, z), (0, ((k : Nat) : Int))] [] g u1 (yQ g t (y_tape m x y z)) := by
                refine xk_up 60 (fun k hkk ih14  u1 h1_1 h1_2 => ?_)
                refine xk_load rfl (p := 69) rfl rfl ?_
                refine xk_push rfl (p := 71) rfl ?_
                refine xk_icmp rfl (p := 74) rfl (fun c71_15 => ?_) (fun c71_15 => ?_)
                · replace c71_15 : 60 ≤ ((k : Nat) : Int) := c71_15
                  refine xk_push rfl (p := 94) rfl ?_
                  refine xk_ret rfl (rfl) ?_
                  rw [show k = 60 by omega] at h1_1
                  exact yRet (by unfold y_tape tTp; rw [if_pos (by omega), if_pos (by omega), if_neg (by omega), if_pos (by omega)]) h1_1 h1_2
                · replace c71_15 : ¬ (60 ≤ ((k : Nat) : Int)) := c71_15
                  refine xk_load rfl (p := 75) rfl rfl ?_
                  refine xk_getf rfl (p := 78) rfl (xob (ly_m L) (by decide)) (v := (2, ((318 : Nat) : Int))) (xsl2 rfl (ly_mp41 L)) ?_
                  refine xk_push rfl (p := 80) rfl ?_
                  refine xk_load rfl (p := 81) rfl rfl ?_
                  refine xk_bin rfl (p := 82) rfl (z := (60 * x)) (congrArg some (xmul_r (by omega) (by omega))) ?_
                  refine xk_load rfl (p := 84) rfl rfl ?_
                  refine xk_bin rfl (p := 85) rfl (z := ((60 * x) + ((k : Nat) : Int))) (congrArg some (xadd_r (by omega) (by omega))) ?_
                  refine xk_push rfl (p := 86) rfl ?_
                  refine xk_asti rfl (p := 87) rfl (show 0 ≤ ((60 * x) + ((k : Nat) : Int)) by omega) (by decide) rfl (xsk (ly_ms41 L)) (xsn (ly_ms41 L) (show ((60 * x) + ((k : Nat) : Int)).toNat < 360 by omega)) (by omega) ?_
                  refine xk_inc1 rfl (p := 90) rfl (n := k) rfl (by omega) (ls' := [(2, ((292 : Nat) : Int)), (0, x), (0, y), (0, z), (0, ((k + 1 : Nat) : Int))]) rfl ?_
                  refine xk_goto rfl ?_
                  exact ih14 (by omega)  (xupd u1 318 (((60 * x) + ((k : Nat) : Int)).toNat) 0) (by exact h1_1.tz (by omega)) (by exact h1_2.up (by decide))
              exact lp14 0 (by omega)  (xupd (xupd t 316 (x.toNat) y) 317 (x.toNat) 0) (by rw [tTz_0]; exact hM.up.up) (by exact (Md.rf.up (by decide)).up (by decide))
          · replace c36_10 : ¬ (0 ≤ z) := c36_10
            refine xk_push rfl (p := 41) rfl ?_
            refine xk_ret rfl (rfl) ?_
            exact yRet (show y_tape m x y z = (some (0, (-14)), m) from by unfold y_tape; (repeat' split) <;> first | (exfalso; omega) | rfl) hM Md.rf
      · replace c19_3 : ¬ (y < 0) := c19_3
        refine xk_load rfl (p := 23) rfl rfl ?_
        refine xk_push rfl (p := 25) rfl ?_
        refine xk_icmp rfl (p := 28) rfl (fun c25_16 => ?_) (fun c25_16 => ?_)
        · replace c25_16 : z ≤ 60 := c25_16
          refine xk_load rfl (p := 32) rfl rfl ?_
          refine xk_if rfl (p := 35) rfl (fun c32_17 => ?_) (fun c32_17 => ?_)
          · replace c32_17 : y < 0 := c32_17
            refine xk_load rfl (p := 43) rfl rfl ?_
            refine xk_getf rfl (p := 46) rfl (xob (ly_m L) (by decide)) (v := (2, ((316 : Nat) : Int))) (xsl2 rfl (ly_mp39 L)) ?_
            refine xk_load rfl (p := 47) rfl rfl ?_
            refine xk_load rfl (p := 48) rfl rfl ?_
            refine xk_asti rfl (p := 49) rfl (show 0 ≤ x by omega) (by decide) rfl (xsk (ly_ms39 L)) (xsn (ly_ms39 L) (show x.toNat < 6 by omega)) (by omega) ?_
            refine xk_load rfl (p := 50) rfl rfl ?_
            refine xk_getf rfl (p := 53) rfl (xob (ly_m L) (by decide)) (v := (2, ((317 : Nat) : Int))) (xsl2 rfl (ly_mp40 L)) ?_
            refine xk_load rfl (p := 54) rfl rfl ?_
            refine xk_load rfl (p := 55) rfl rfl ?_
            refine xk_if rfl (p := 58) rfl (fun c55_18 => ?_) (fun c55_18 => ?_)
            · replace c55_18 : 0 ≤ y := c55_18
              refine xk_load rfl (p := 63) rfl rfl ?_
              refine xk_asti rfl (p := 64) rfl (show 0 ≤ x by omega) (by decide) rfl (xsk (ly_ms40 L)) (xsn (ly_ms40 L) (show x.toNat < 6 by omega)) (by omega) ?_
              refine xk_push rfl (p := 65) rfl ?_
              refine xk_store rfl (p := 67) rfl (by decide) (Nat.le_of_ble_eq_true rfl) (ls' := [(2, ((292 : Nat) : Int)), (0, x), (0, y), (0, z), (0, 0)]) rfl ?_
              have lp19 : ∀ k : Nat, k ≤ 60 → ∀ (u1 : xD), (Mo u1 (tTz (xupd (xupd m 316 x.toNat y) 317 x.toNat z) x.toNat k)) → (Md t u1) → xOk (d + 2) 194 67 [(2, ((292 : Nat) : Int)), (0, x), (0, y), (0, z), (0, ((k : Nat) : Int))] [] g u1 (yQ g t (y_tape m x y z)) := by
                refine xk_up 60 (fun k hkk ih19  u1 h1_1 h1_2 => ?_)
                refine xk_load rfl (p := 69) rfl rfl ?_
                refine xk_push rfl (p := 71) rfl ?_
                refine xk_icmp rfl (p := 74) rfl (fun c71_20 => ?_) (fun c71_20 => ?_)
                · replace c71_20 : 60 ≤ ((k : Nat) : Int) := c71_20
                  refine xk_push rfl (p := 94) rfl ?_
                  refine xk_ret rfl (rfl) ?_
                  rw [show k = 60 by omega] at h1_1
                  exact yRet (by unfold y_tape tTp; rw [if_pos (by omega), if_pos (by omega), if_neg (by omega), if_neg (by omega)]) h1_1 h1_2
                · replace c71_20 : ¬ (60 ≤ ((k : Nat) : Int)) := c71_20
                  refine xk_load rfl (p := 75) rfl rfl ?_
                  refine xk_getf rfl (p := 78) rfl (xob (ly_m L) (by decide)) (v := (2, ((318 : Nat) : Int))) (xsl2 rfl (ly_mp41 L)) ?_
                  refine xk_push rfl (p := 80) rfl ?_
                  refine xk_load rfl (p := 81) rfl rfl ?_
                  refine xk_bin rfl (p := 82) rfl (z := (60 * x)) (congrArg some (xmul_r (by omega) (by omega))) ?_
                  refine xk_load rfl (p := 84) rfl rfl ?_
                  refine xk_bin rfl (p := 85) rfl (z := ((60 * x) + ((k : Nat) : Int))) (congrArg some (xadd_r (by omega) (by omega))) ?_
                  refine xk_push rfl (p := 86) rfl ?_
                  refine xk_asti rfl (p := 87) rfl (show 0 ≤ ((60 * x) + ((k : Nat) : Int)) by omega) (by decide) rfl (xsk (ly_ms41 L)) (xsn (ly_ms41 L) (show ((60 * x) + ((k : Nat) : Int)).toNat < 360 by omega)) (by omega) ?_
                  refine xk_inc1 rfl (p := 90) rfl (n := k) rfl (by omega) (ls' := [(2, ((292 : Nat) : Int)), (0, x), (0, y), (0, z), (0, ((k + 1 : Nat) : Int))]) rfl ?_
                  refine xk_goto rfl ?_
                  exact ih19 (by omega)  (xupd u1 318 (((60 * x) + ((k : Nat) : Int)).toNat) 0) (by exact h1_1.tz (by omega)) (by exact h1_2.up (by decide))
              exact lp19 0 (by omega)  (xupd (xupd t 316 (x.toNat) y) 317 (x.toNat) z) (by rw [tTz_0]; exact hM.up.up) (by exact (Md.rf.up (by decide)).up (by decide))
            · replace c55_18 : ¬ (0 ≤ y) := c55_18
              refine xk_push rfl (p := 59) rfl ?_
              refine xk_goto rfl ?_
              refine xk_asti rfl (p := 64) rfl (show 0 ≤ x by omega) (by decide) rfl (xsk (ly_ms40 L)) (xsn (ly_ms40 L) (show x.toNat < 6 by omega)) (by omega) ?_
              refine xk_push rfl (p := 65) rfl ?_
              refine xk_store rfl (p := 67) rfl (by decide) (Nat.le_of_ble_eq_true rfl) (ls' := [(2, ((292 : Nat) : Int)), (0, x), (0, y), (0, z), (0, 0)]) rfl ?_
              have lp21 : ∀ k : Nat, k ≤ 60 → ∀ (u1 : xD), (Mo u1 (tTz (xupd (xupd m 316 x.toNat y) 317 x.toNat 0) x.toNat k)) → (Md t u1) → xOk (d + 2) 194 67 [(2, ((292 : Nat) : Int)), (0, x), (0, y), (0, z), (0, ((k : Nat) : Int))] [] g u1 (yQ g t (y_tape m x y z)) := by
                refine xk_up 60 (fun k hkk ih21  u1 h1_1 h1_2 => ?_)
                refine xk_load rfl (p := 69) rfl rfl ?_
                refine xk_push rfl (p := 71) rfl ?_
                refine xk_icmp rfl (p := 74) rfl (fun c71_22 => ?_) (fun c71_22 => ?_)
                · replace c71_22 : 60 ≤ ((k : Nat) : Int) := c71_22
                  refine xk_push rfl (p := 94) rfl ?_
                  refine xk_ret rfl (rfl) ?_
                  rw [show k = 60 by omega] at h1_1
                  exact yRet (by unfold y_tape tTp; rw [if_pos (by omega), if_pos (by omega), if_neg (by omega), if_pos (by omega)]) h1_1 h1_2
                · replace c71_22 : ¬ (60 ≤ ((k : Nat) : Int)) := c71_22
                  refine xk_load rfl (p := 75) rfl rfl ?_
                  refine xk_getf rfl (p := 78) rfl (xob (ly_m L) (by decide)) (v := (2, ((318 : Nat) : Int))) (xsl2 rfl (ly_mp41 L)) ?_
                  refine xk_push rfl (p := 80) rfl ?_
                  refine xk_load rfl (p := 81) rfl rfl ?_
                  refine xk_bin rfl (p := 82) rfl (z := (60 * x)) (congrArg some (xmul_r (by omega) (by omega))) ?_
                  refine xk_load rfl (p := 84) rfl rfl ?_
                  refine xk_bin rfl (p := 85) rfl (z := ((60 * x) + ((k : Nat) : Int))) (congrArg some (xadd_r (by omega) (by omega))) ?_
                  refine xk_push rfl (p := 86) rfl ?_
                  refine xk_asti rfl (p := 87) rfl (show 0 ≤ ((60 * x) + ((k : Nat) : Int)) by omega) (by decide) rfl (xsk (ly_ms41 L)) (xsn (ly_ms41 L) (show ((60 * x) + ((k : Nat) : Int)).toNat < 360 by omega)) (by omega) ?_
                  refine xk_inc1 rfl (p := 90) rfl (n := k) rfl (by omega) (ls' := [(2, ((292 : Nat) : Int)), (0, x), (0, y), (0, z), (0, ((k + 1 : Nat) : Int))]) rfl ?_
                  refine xk_goto rfl ?_
                  exact ih21 (by omega)  (xupd u1 318 (((60 * x) + ((k : Nat) : Int)).toNat) 0) (by exact h1_1.tz (by omega)) (by exact h1_2.up (by decide))
              exact lp21 0 (by omega)  (xupd (xupd t 316 (x.toNat) y) 317 (x.toNat) 0) (by rw [tTz_0]; exact hM.up.up) (by exact (Md.rf.up (by decide)).up (by decide))
          · replace c32_17 : ¬ (y < 0) := c32_17
            refine xk_load rfl (p := 36) rfl rfl ?_
            refine xk_if rfl (p := 39) rfl (fun c36_23 => ?_) (fun c36_23 => ?_)
            · replace c36_23 : 0 ≤ z := c36_23
              refine xk_load rfl (p := 43) rfl rfl ?_
              refine xk_getf rfl (p := 46) rfl (xob (ly_m L) (by decide)) (v := (2, ((316 : Nat) : Int))) (xsl2 rfl (ly_mp39 L)) ?_
              refine xk_load rfl (p := 47) rfl rfl ?_
              refine xk_load rfl (p := 48) rfl rfl ?_
              refine xk_asti rfl (p := 49) rfl (show 0 ≤ x by omega) (by decide) rfl (xsk (ly_ms39 L)) (xsn (ly_ms39 L) (show x.toNat < 6 by omega)) (by omega) ?_
              refine xk_load rfl (p := 50) rfl rfl ?_
              refine xk_getf rfl (p := 53) rfl (xob (ly_m L) (by decide)) (v := (2, ((317 : Nat) : Int))) (xsl2 rfl (ly_mp40 L)) ?_
              refine xk_load rfl (p := 54) rfl rfl ?_
              refine xk_load rfl (p := 55) rfl rfl ?_
              refine xk_if rfl (p := 58) rfl (fun c55_24 => ?_) (fun c55_24 => ?_)
              · replace c55_24 : 0 ≤ y := c55_24
                refine xk_load rfl (p := 63) rfl rfl ?_
                refine xk_asti rfl (p := 64) rfl (show 0 ≤ x by omega) (by decide) rfl (xsk (ly_ms40 L)) (xsn (ly_ms40 L) (show x.toNat < 6 by omega)) (by omega) ?_
                refine xk_push rfl (p := 65) rfl ?_
                refine xk_store rfl (p := 67) rfl (by decide) (Nat.le_of_ble_eq_true rfl) (ls' := [(2, ((292 : Nat) : Int)), (0, x), (0, y), (0, z), (0, 0)]) rfl ?_
                have lp25 : ∀ k : Nat, k ≤ 60 → ∀ (u1 : xD), (Mo u1 (tTz (xupd (xupd m 316 x.toNat y) 317 x.toNat z) x.toNat k)) → (Md t u1) → xOk (d + 2) 194 67 [(2, ((292 : Nat) : Int)), (0, x), (0, y), (0, z), (0, ((k : Nat) : Int))] [] g u1 (yQ g t (y_tape m x y z)) := by
                  refine xk_up 60 (fun k hkk ih25  u1 h1_1 h1_2 => ?_)
                  refine xk_load rfl (p := 69) rfl rfl ?_
                  refine xk_push rfl (p := 71) rfl ?_
                  refine xk_icmp rfl (p := 74) rfl (fun c71_26 => ?_) (fun c71_26 => ?_)
                  · replace c71_26 : 60 ≤ ((k : Nat) : Int) := c71_26
                    refine xk_push rfl (p := 94) rfl ?_
                    refine xk_ret rfl (rfl) ?_
                    rw [show k = 60 by omega] at h1_1
                    exact yRet (by unfold y_tape tTp; rw [if_pos (by omega), if_pos (by omega), if_neg (by omega), if_neg (by omega)]) h1_1 h1_2
                  · replace c71_26 : ¬ (60 ≤ ((k : Nat) : Int)) := c71_26
                    refine xk_load rfl (p := 75) rfl rfl ?_
                    refine xk_getf rfl (p := 78) rfl (xob (ly_m L) (by decide)) (v := (2, ((318 : Nat) : Int))) (xsl2 rfl (ly_mp41 L)) ?_
                    refine xk_push rfl (p := 80) rfl ?_
                    refine xk_load rfl (p := 81) rfl rfl ?_
                    refine xk_bin rfl (p := 82) rfl (z := (60 * x)) (congrArg some (xmul_r (by omega) (by omega))) ?_
                    refine xk_load rfl (p := 84) rfl rfl ?_
                    refine xk_bin rfl (p := 85) rfl (z := ((60 * x) + ((k : Nat) : Int))) (congrArg some (xadd_r (by omega) (by omega))) ?_
                    refine xk_push rfl (p := 86) rfl ?_
                    refine xk_asti rfl (p := 87) rfl (show 0 ≤ ((60 * x) + ((k : Nat) : Int)) by omega) (by decide) rfl (xsk (ly_ms41 L)) (xsn (ly_ms41 L) (show ((60 * x) + ((k : Nat) : Int)).toNat < 360 by omega)) (by omega) ?_
                    refine xk_inc1 rfl (p := 90) rfl (n := k) rfl (by omega) (ls' := [(2, ((292 : Nat) : Int)), (0, x), (0, y), (0, z), (0, ((k + 1 : Nat) : Int))]) rfl ?_
                    refine xk_goto rfl ?_
                    exact ih25 (by omega)  (xupd u1 318 (((60 * x) + ((k : Nat) : Int)).toNat) 0) (by exact h1_1.tz (by omega)) (by exact h1_2.up (by decide))
                exact lp25 0 (by omega)  (xupd (xupd t 316 (x.toNat) y) 317 (x.toNat) z) (by rw [tTz_0]; exact hM.up.up) (by exact (Md.rf.up (by decide)).up (by decide))
              · replace c55_24 : ¬ (0 ≤ y) := c55_24
                refine xk_push rfl (p := 59) rfl ?_
                refine xk_goto rfl ?_
                refine xk_asti rfl (p := 64) rfl (show 0 ≤ x by omega) (by decide) rfl (xsk (ly_ms40 L)) (xsn (ly_ms40 L) (show x.toNat < 6 by omega)) (by omega) ?_
                refine xk_push rfl (p := 65) rfl ?_
                refine xk_store rfl (p := 67) rfl (by decide) (Nat.le_of_ble_eq_true rfl) (ls' := [(2, ((292 : Nat) : Int)), (0, x), (0, y), (0, z), (0, 0)]) rfl ?_
                have lp27 : ∀ k : Nat, k ≤ 60 → ∀ (u1 : xD), (Mo u1 (tTz (xupd (xupd m 316 x.toNat y) 317 x.toNat 0) x.toNat k)) → (Md t u1) → xOk (d + 2) 194 67 [(2, ((292 : Nat) : Int)), (0, x), (0, y), (0, z), (0, ((k : Nat) : Int))] [] g u1 (yQ g t (y_tape m x y z)) := by
                  refine xk_up 60 (fun k hkk ih27  u1 h1_1 h1_2 => ?_)
                  refine xk_load rfl (p := 69) rfl rfl ?_
                  refine xk_push rfl (p := 71) rfl ?_
                  refine xk_icmp rfl (p := 74) rfl (fun c71_28 => ?_) (fun c71_28 => ?_)
                  · replace c71_28 : 60 ≤ ((k : Nat) : Int) := c71_28
                    refine xk_push rfl (p := 94) rfl ?_
                    refine xk_ret rfl (rfl) ?_
                    rw [show k = 60 by omega] at h1_1
                    exact yRet (by unfold y_tape tTp; rw [if_pos (by omega), if_pos (by omega), if_neg (by omega), if_pos (by omega)]) h1_1 h1_2
                  · replace c71_28 : ¬ (60 ≤ ((k : Nat) : Int)) := c71_28
                    refine xk_load rfl (p := 75) rfl rfl ?_
                    refine xk_getf rfl (p := 78) rfl (xob (ly_m L) (by decide)) (v := (2, ((318 : Nat) : Int))) (xsl2 rfl (ly_mp41 L)) ?_
                    refine xk_push rfl (p := 80) rfl ?_
                    refine xk_load rfl (p := 81) rfl rfl ?_
                    refine xk_bin rfl (p := 82) rfl (z := (60 * x)) (congrArg some (xmul_r (by omega) (by omega))) ?_
                    refine xk_load rfl (p := 84) rfl rfl ?_
                    refine xk_bin rfl (p := 85) rfl (z := ((60 * x) + ((k : Nat) : Int))) (congrArg some (xadd_r (by omega) (by omega))) ?_
                    refine xk_push rfl (p := 86) rfl ?_
                    refine xk_asti rfl (p := 87) rfl (show 0 ≤ ((60 * x) + ((k : Nat) : Int)) by omega) (by decide) rfl (xsk (ly_ms41 L)) (xsn (ly_ms41 L) (show ((60 * x) + ((k : Nat) : Int)).toNat < 360 by omega)) (by omega) ?_
                    refine xk_inc1 rfl (p := 90) rfl (n := k) rfl (by omega) (ls' := [(2, ((292 : Nat) : Int)), (0, x), (0, y), (0, z), (0, ((k + 1 : Nat) : Int))]) rfl ?_
                    refine xk_goto rfl ?_
                    exact ih27 (by omega)  (xupd u1 318 (((60 * x) + ((k : Nat) : Int)).toNat) 0) (by exact h1_1.tz (by omega)) (by exact h1_2.up (by decide))
                exact lp27 0 (by omega)  (xupd (xupd t 316 (x.toNat) y) 317 (x.toNat) 0) (by rw [tTz_0]; exact hM.up.up) (by exact (Md.rf.up (by decide)).up (by decide))
            · replace c36_23 : ¬ (0 ≤ z) := c36_23
              refine xk_push rfl (p := 41) rfl ?_
              refine xk_ret rfl (rfl) ?_
              exact yRet (show y_tape m x y z = (some (0, (-14)), m) from by unfold y_tape; (repeat' split) <;> first | (exfalso; omega) | rfl) hM Md.rf
        · replace c25_16 : ¬ (z ≤ 60) := c25_16
          refine xk_push rfl (p := 30) rfl ?_
          refine xk_ret rfl (rfl) ?_
          exact yRet (show y_tape m x y z = (some (0, (-2)), m) from by unfold y_tape; (repeat' split) <;> first | (exfalso; omega) | rfl) hM Md.rf
  · replace c4_1 : ¬ (0 ≤ x ∧ x ≤ 5) := xb_e1 c4_1
    refine xk_push rfl (p := 8) rfl ?_
    refine xk_ret rfl (rfl) ?_
    exact yRet (show y_tape m x y z = (some (0, (-1)), m) from by unfold y_tape; (repeat' split) <;> first | (exfalso; omega) | rfl) hM Md.rf

/-- the tapes, in the class as in the model -/
def TP (t m : xD) : Prop := ∀ k, k < 6 → t (280 + 2 * k) 1 = m 316 k ∧ t (280 + 2 * k) 2 = m 317 k ∧ ∀ i : Nat, (i : Int) < m 317 k → t (280 + 2 * k + 1) i = m 318 (60 * k + i)
/-- nothing but the tapes has changed -/
def Ft (t u : xD) : Prop := ∀ b j, ¬ (280 ≤ b ∧ b < 292) → u b j = t b j
def tQ0 (g : xG) (t : xD) (S : Option xV × xD) : Option xV → xG → xD → Prop := fun r g1 t1 => g1 = g ∧ r = S.1 ∧ TP t1 S.2 ∧ Ft t t1
theorem tRet {g : xG} {t u m : xD} {S : Option xV × xD} {r : Option xV} (e : S = (r, m)) (h1 : TP u m) (h2 : Ft t u) : tQ0 g t S r g u := by
  rw [e]
  exact ⟨rfl, rfl, h1, h2⟩
theorem Ft.rf {t : xD} : Ft t t := fun _ _ _ => rfl
theorem c_read {d : Nat} {g : xG} {t m : xD} {x y : Int} (L : xLay g) (hP : TP t m) (hT : MT m) : xCall (d + 1) 105 [(2, ((2 : Nat) : Int)), (0, x), (0, y)] g t (xQ g t (some (1, y_read m x y))) := by
  show xOk (d + 1) 105 0 [(2, ((2 : Nat) : Int)), (0, x), (0, y), (3, 0)] [] g t _
  refine xk_load rfl (p := 1) rfl rfl ?_
  refine xk_callp rfl (p := 4) rfl (by decide) rfl (Nat.le_of_ble_eq_true rfl) (Nat.le_of_ble_eq_true rfl) (rfl) (as := [(0, x)]) (r := []) rfl (v := (0, (if 0 ≤ x ∧ x ≤ 5 then (1 : Int) else 0))) (c_isTape) ?_
  refine xk_if rfl (p := 7) rfl (fun c4_1 => ?_) (fun c4_1 => ?_)
  · replace c4_1 : 0 ≤ x ∧ x ≤ 5 := xb_n0 c4_1
    refine xk_load rfl (p := 12) rfl rfl ?_
    refine xk_getf rfl (p := 15) rfl (xob (ly_x L) (by decide)) (v := (2, ((279 : Nat) : Int))) (xsl2 rfl (ly_x5 L)) ?_
    refine xk_load rfl (p := 16) rfl rfl ?_
    refine xk_aldi rfl (p := 17) rfl (show 0 ≤ x by omega) (v := (2, (((280 + 2 * (x.toNat)) : Nat) : Int))) (xal2 (ly_tt L) (by decide) (show x.toNat < 6 by omega) (ly_te L (show x.toNat < 6 by omega))) ?_
    refine xk_store rfl (p := 18) rfl (by decide) (Nat.le_of_ble_eq_true rfl) (ls' := [(2, ((2 : Nat) : Int)), (0, x), (0, y), (2, (((280 + 2 * (x.toNat)) : Nat) : Int))]) rfl ?_
    refine xk_load rfl (p := 19) rfl rfl ?_
    refine xk_if rfl (p := 22) rfl (fun c19_2 => ?_) (fun c19_2 => ?_)
    · replace c19_2 : y < 0 := c19_2
      refine xk_push rfl (p := 33) rfl ?_
      refine xk_goto rfl ?_
      refine xk_rete rfl (rfl) ?_
      unfold y_read
      (repeat' split) <;> first | (exfalso; omega) | rfl | (congr 1; omega)
    · replace c19_2 : ¬ (y < 0) := c19_2
      refine xk_load rfl (p := 23) rfl rfl ?_
      refine xk_load rfl (p := 24) rfl rfl ?_
      refine xk_getf rfl (p := 27) rfl (xob ((ly_tp L (show x.toNat < 6 by omega)).1) (by decide)) (v := (0, m 317 (x.toNat))) (xsl0 rfl ((hP (x.toNat) (by omega)).2.1)) ?_
      have hT_ := hT (x.toNat) (by omega)
      refine xk_icmp rfl (p := 30) rfl (fun c27_3 => ?_) (fun c27_3 => ?_)
      · replace c27_3 : y < m 317 (x.toNat) := c27_3
        refine xk_load rfl (p := 37) rfl rfl ?_
        refine xk_getf rfl (p := 40) rfl (xob ((ly_tp L (show x.toNat < 6 by omega)).1) (by decide)) (v := (2, ((((280 + 2 * (x.toNat)) + 1) : Nat) : Int))) (xsl2 rfl ((ly_tp L (show x.toNat < 6 by omega)).2.2)) ?_
        refine xk_load rfl (p := 41) rfl rfl ?_
        refine xk_aldi rfl (p := 42) rfl (show 0 ≤ y by omega) (v := (1, m 318 (60 * (x.toNat) + (y.toNat)))) ((xal1 ((ly_tp L (show x.toNat < 6 by omega)).2.1) (show y.toNat < 60 by omega)).trans (congrArg (fun z => some (1, z)) ((hP (x.toNat) (by omega)).2.2 (y.toNat) (by omega)))) ?_
        refine xk_rete rfl (rfl) ?_
        unfold y_read
        (repeat' split) <;> first | (exfalso; omega) | rfl | (congr 1; omega)
      · replace c27_3 : ¬ (y < m 317 (x.toNat)) := c27_3
        refine xk_push rfl (p := 33) rfl ?_
        refine xk_goto rfl ?_
        refine xk_rete rfl (rfl) ?_
        unfold y_read
        (repeat' split) <;> first | (exfalso; omega) | rfl | (congr 1; omega)
  · replace c4_1 : ¬ (0 ≤ x ∧ x ≤ 5) := xb_e1 c4_1
    refine xk_push rfl (p := 10) rfl ?_
    refine xk_rete rfl (rfl) ?_
    unfold y_read
    (repeat' split) <;> first | (exfalso; omega) | rfl | (congr 1; omega)

theorem c_narrowed {d : Nat} {g : xG} {t m : xD} {n : Nat} {v : Int} (L : xLay g) (hn : n < 6) (hP : TP t m) (hT : MT m) (h0 : ¬ m 316 n = -1) : xCall (d) 63 [(2, (((280 + 2 * n) : Nat) : Int)), (1, v)] g t (xQ g t (some (1, sKept (m 316 n) v))) := by
  show xOk (d) 63 0 [(2, (((280 + 2 * n) : Nat) : Int)), (1, v), (3, 0)] [] g t _
  refine xk_load rfl (p := 1) rfl rfl ?_
  refine xk_getf rfl (p := 4) rfl (xob ((ly_tp L (show n < 6 by omega)).1) (by decide)) (v := (0, m 316 n)) (xsl0 rfl ((hP n (by omega)).1)) ?_
  have hT_ := hT n (by omega)
  by_cases c4_1 : m 316 n = 0
  · refine xk_switch rfl (w := 40) (by rw [c4_1]; rfl) ?_
    refine xk_load rfl (p := 41) rfl rfl ?_
    refine xk_un rfl (p := 42) rfl (w := (0, xl2i v)) (rfl) ?_
    refine xk_un rfl (p := 43) rfl (w := (0, xi2b (xl2i v))) (rfl) ?_
    refine xk_un rfl (p := 44) rfl (w := (1, xi2b (xl2i v))) (rfl) ?_
    refine xk_rete rfl (rfl) ?_
    have xl := @xlcmp_c v 0
    unfold sKept
    (repeat' split) <;> first | (exfalso; omega) | rfl
  by_cases c4_2 : m 316 n = 1
  · refine xk_switch rfl (w := 45) (by rw [c4_2]; rfl) ?_
    refine xk_load rfl (p := 46) rfl rfl ?_
    refine xk_un rfl (p := 47) rfl (w := (0, xl2i v)) (rfl) ?_
    refine xk_un rfl (p := 48) rfl (w := (0, xi2s (xl2i v))) (rfl) ?_
    refine xk_un rfl (p := 49) rfl (w := (1, xi2s (xl2i v))) (rfl) ?_
    refine xk_rete rfl (rfl) ?_
    have xl := @xlcmp_c v 0
    unfold sKept
    (repeat' split) <;> first | (exfalso; omega) | rfl
  by_cases c4_3 : m 316 n = 2
  · refine xk_switch rfl (w := 50) (by rw [c4_3]; rfl) ?_
    refine xk_load rfl (p := 51) rfl rfl ?_
    refine xk_un rfl (p := 52) rfl (w := (0, xl2i v)) (rfl) ?_
    refine xk_un rfl (p := 53) rfl (w := (1, xl2i v)) (rfl) ?_
    refine xk_rete rfl (rfl) ?_
    have xl := @xlcmp_c v 0
    unfold sKept
    (repeat' split) <;> first | (exfalso; omega) | rfl
  by_cases c4_4 : m 316 n = 3
  · refine xk_switch rfl (w := 66) (by rw [c4_4]; rfl) ?_
    refine xk_load rfl (p := 67) rfl rfl ?_
    refine xk_rete rfl (rfl) ?_
    have xl := @xlcmp_c v 0
    unfold sKept
    (repeat' split) <;> first | (exfalso; omega) | rfl
  by_cases c4_5 : m 316 n = 4
  · refine xk_switch rfl (w := 54) (by rw [c4_5]; rfl) ?_
    refine xk_load rfl (p := 55) rfl rfl ?_
    refine xk_push rfl (p := 56) rfl ?_
    refine xk_lbin rfl (p := 57) rfl rfl (w := (0, xlcmp v 0)) (rfl) ?_
    refine xk_if rfl (p := 60) rfl (fun c57_6 => ?_) (fun c57_6 => ?_)
    · replace c57_6 : xlcmp v 0 = 0 := c57_6
      refine xk_push rfl (p := 65) rfl ?_
      refine xk_rete rfl (rfl) ?_
      have xl := @xlcmp_c v 0
      unfold sKept
      (repeat' split) <;> first | (exfalso; omega) | rfl
    · replace c57_6 : ¬ (xlcmp v 0 = 0) := c57_6
      refine xk_push rfl (p := 61) rfl ?_
      refine xk_goto rfl ?_
      refine xk_rete rfl (rfl) ?_
      have xl := @xlcmp_c v 0
      unfold sKept
      (repeat' split) <;> first | (exfalso; omega) | rfl
  refine xk_switch rfl (w := 66) (if_pos (by first | omega | (simp only [List.length]; omega))) ?_
  refine xk_load rfl (p := 67) rfl rfl ?_
  refine xk_rete rfl (rfl) ?_
  have xl := @xlcmp_c v 0
  unfold sKept
  (repeat' split) <;> first | (exfalso; omega) | rfl
