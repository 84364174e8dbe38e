/-! THE MODEL, READ -/
theorem n_within {d : Nat} {g : xG} {t : xD} {x y z : Int}  : xCall (d) 115 [(0, x), (0, y), (0, z)] g t (xQ g t (some (0, if y ≤ x ∧ x ≤ z then (1 : Int) else 0))) := by
  show xOk (d) 115 0 [(0, x), (0, y), (0, z)] [] g t _
  refine xk_load rfl (p := 1) rfl rfl ?_
  refine xk_load rfl (p := 2) rfl rfl ?_
  refine xk_icmp rfl (p := 5) rfl (fun c2_1 => ?_) (fun c2_1 => ?_)
  · replace c2_1 : x < y := c2_1
    refine xk_push rfl (p := 15) rfl ?_
    refine xk_rete rfl (rfl) ?_
    exact (if_neg (by omega)).symm
  · replace c2_1 : ¬ (x < y) := c2_1
    refine xk_load rfl (p := 6) rfl rfl ?_
    refine xk_load rfl (p := 7) rfl rfl ?_
    refine xk_icmp rfl (p := 10) rfl (fun c7_2 => ?_) (fun c7_2 => ?_)
    · replace c7_2 : z < x := c7_2
      refine xk_push rfl (p := 15) rfl ?_
      refine xk_rete rfl (rfl) ?_
      exact (if_neg (by omega)).symm
    · replace c7_2 : ¬ (z < x) := c7_2
      refine xk_push rfl (p := 11) rfl ?_
      refine xk_goto rfl ?_
      refine xk_rete rfl (rfl) ?_
      exact (if_pos (by omega)).symm

theorem n_isName {d : Nat} {g : xG} {t m : xD} {x : Int} (L : xLay g) (hM : Mo t m) (hI : Inv m) : xCall (d + 1) 116 [(2, ((292 : Nat) : Int)), (0, x)] g t (xQ g t (some (0, if 0 ≤ x ∧ x < m 292 0 then (1 : Int) else 0))) := by
  show xOk (d + 1) 116 0 [(2, ((292 : Nat) : Int)), (0, x)] [] g t _
  refine xk_load rfl (p := 1) rfl rfl ?_
  refine xk_push rfl (p := 2) rfl ?_
  refine xk_load rfl (p := 3) rfl rfl ?_
  refine xk_getf rfl (p := 6) rfl (xob (ly_m L) (by decide)) (v := (0, ((nN m : Nat) : Int))) (xsl0 rfl ((hM 292 0 (by decide)).trans (iNn hI).1)) ?_
  have iNn_ := iNn hI
  refine xk_push rfl (p := 7) rfl ?_
  refine xk_bin rfl (p := 8) rfl (z := (((nN m : Nat) : Int) - 1)) (congrArg some (xsub_r (by omega) (by omega))) ?_
  refine xk_callp rfl (p := 11) rfl (by decide) rfl (Nat.le_of_ble_eq_true rfl) (Nat.le_of_ble_eq_true rfl) (rfl) (as := [(0, x), (0, 0), (0, (((nN m : Nat) : Int) - 1))]) (r := []) rfl (v := (0, (if 0 ≤ x ∧ x ≤ (((nN m : Nat) : Int) - 1) then (1 : Int) else 0))) (n_within) ?_
  refine xk_rete rfl (xret_b rfl (by first | omega | (split <;> simp))) ?_
  exact xb_iff ⟨fun _ => by omega, fun _ => by omega⟩

theorem n_isDeal {d : Nat} {g : xG} {t m : xD} {x : Int} (L : xLay g) (hM : Mo t m) (hI : Inv m) : xCall (d + 1) 117 [(2, ((292 : Nat) : Int)), (0, x)] g t (xQ g t (some (0, if 0 ≤ x ∧ x < 4 ∧ 0 < m 300 x.toNat then (1 : Int) else 0))) := by
  show xOk (d + 1) 117 0 [(2, ((292 : Nat) : Int)), (0, x)] [] g t _
  refine xk_load rfl (p := 1) rfl rfl ?_
  refine xk_push rfl (p := 2) rfl ?_
  refine xk_push rfl (p := 3) rfl ?_
  refine xk_callp rfl (p := 6) rfl (by decide) rfl (Nat.le_of_ble_eq_true rfl) (Nat.le_of_ble_eq_true rfl) (rfl) (as := [(0, x), (0, 0), (0, 3)]) (r := []) rfl (v := (0, (if 0 ≤ x ∧ x ≤ 3 then (1 : Int) else 0))) (n_within) ?_
  refine xk_if rfl (p := 9) rfl (fun c6_1 => ?_) (fun c6_1 => ?_)
  · replace c6_1 : ¬ (0 ≤ x ∧ x ≤ 3) := xb_e0 c6_1
    refine xk_push rfl (p := 23) rfl ?_
    refine xk_rete rfl (rfl) ?_
    exact (if_neg (by omega)).symm
  · replace c6_1 : 0 ≤ x ∧ x ≤ 3 := xb_n0 c6_1
    refine xk_load rfl (p := 10) rfl rfl ?_
    refine xk_getf rfl (p := 13) rfl (xob (ly_m L) (by decide)) (v := (2, ((300 : Nat) : Int))) (xsl2 rfl (ly_mp9 L)) ?_
    refine xk_load rfl (p := 14) rfl rfl ?_
    refine xk_aldi rfl (p := 15) rfl (show 0 ≤ x by omega) (v := (0, m 300 (x.toNat))) ((xal0 (ly_ms9 L) (show x.toNat < 4 by omega)).trans (congrArg (fun z => some (0, z)) (hM 300 (x.toNat) (by decide)))) ?_
    have iD_ := iD hI (show x.toNat < 4 by omega)
    refine xk_if rfl (p := 18) rfl (fun c15_2 => ?_) (fun c15_2 => ?_)
    · replace c15_2 : m 300 (x.toNat) ≤ 0 := c15_2
      refine xk_push rfl (p := 23) rfl ?_
      refine xk_rete rfl (rfl) ?_
      exact (if_neg (by omega)).symm
    · replace c15_2 : ¬ (m 300 (x.toNat) ≤ 0) := c15_2
      refine xk_push rfl (p := 19) rfl ?_
      refine xk_goto rfl ?_
      refine xk_rete rfl (rfl) ?_
      exact (if_pos (by omega)).symm

theorem n_isValue {d : Nat} {g : xG} {t : xD} {x : Int}  : xCall (d + 1) 118 [(0, x)] g t (xQ g t (some (0, if 0 ≤ x ∧ x ≤ 999 then (1 : Int) else 0))) := by
  show xOk (d + 1) 118 0 [(0, x)] [] g t _
  refine xk_load rfl (p := 1) rfl rfl ?_
  refine xk_push rfl (p := 2) rfl ?_
  refine xk_push rfl (p := 5) rfl ?_
  refine xk_callp rfl (p := 8) rfl (by decide) rfl (Nat.le_of_ble_eq_true rfl) (Nat.le_of_ble_eq_true rfl) (rfl) (as := [(0, x), (0, 0), (0, 999)]) (r := []) rfl (v := (0, (if 0 ≤ x ∧ x ≤ 999 then (1 : Int) else 0))) (n_within) ?_
  refine xk_rete rfl (xret_b rfl (by first | omega | (split <;> simp))) ?_
  rfl

theorem n_isTape {d : Nat} {g : xG} {t : xD} {x : Int}  : xCall (d + 1) 193 [(0, x)] g t (xQ g t (some (0, if 0 ≤ x ∧ x ≤ 5 then (1 : Int) else 0))) := by
  show xOk (d + 1) 193 0 [(0, x)] [] g t _
  refine xk_load rfl (p := 1) rfl rfl ?_
  refine xk_push rfl (p := 2) rfl ?_
  refine xk_push rfl (p := 3) rfl ?_
  refine xk_callp rfl (p := 6) rfl (by decide) rfl (Nat.le_of_ble_eq_true rfl) (Nat.le_of_ble_eq_true rfl) (rfl) (as := [(0, x), (0, 0), (0, 5)]) (r := []) rfl (v := (0, (if 0 ≤ x ∧ x ≤ 5 then (1 : Int) else 0))) (n_within) ?_
  refine xk_rete rfl (xret_b rfl (by first | omega | (split <;> simp))) ?_
  rfl

theorem n_stored {d : Nat} {g : xG} {t m : xD} {n : Nat} (L : xLay g) (hM : Mo t m) (hI : Inv m) (hn : n < 12) : xCall (d) 124 [(2, ((292 : Nat) : Int)), (0, ((n : Nat) : Int))] g t (xQ g t (some (0, sSto m n))) := by
  show xOk (d) 124 0 [(2, ((292 : Nat) : Int)), (0, ((n : Nat) : Int))] [] g t _
  refine xk_load rfl (p := 1) rfl rfl ?_
  refine xk_getf rfl (p := 4) rfl (xob (ly_m L) (by decide)) (v := (2, ((296 : Nat) : Int))) (xsl2 rfl (ly_mp4 L)) ?_
  refine xk_load rfl (p := 5) rfl rfl ?_
  refine xk_ald rfl (p := 6) rfl (v := (0, m 296 n)) ((xal0 (ly_ms4 L) (show n < 12 by omega)).trans (congrArg (fun z => some (0, z)) (hM 296 n (by decide)))) ?_
  refine xk_if rfl (p := 9) rfl (fun c6_1 => ?_) (fun c6_1 => ?_)
  · replace c6_1 : m 296 n = 0 := c6_1
    refine xk_load rfl (p := 19) rfl rfl ?_
    refine xk_getf rfl (p := 22) rfl (xob (ly_m L) (by decide)) (v := (2, ((297 : Nat) : Int))) (xsl2 rfl (ly_mp5 L)) ?_
    refine xk_load rfl (p := 23) rfl rfl ?_
    refine xk_ald rfl (p := 24) rfl (v := (0, m 297 n)) ((xal0 (ly_ms5 L) (show n < 12 by omega)).trans (congrArg (fun z => some (0, z)) (hM 297 n (by decide)))) ?_
    refine xk_rete rfl (rfl) ?_
    first | exact (if_pos (by assumption)).symm | exact (if_neg (by assumption)).symm
  · replace c6_1 : ¬ (m 296 n = 0) := c6_1
    refine xk_load rfl (p := 10) rfl rfl ?_
    refine xk_getf rfl (p := 13) rfl (xob (ly_m L) (by decide)) (v := (2, ((296 : Nat) : Int))) (xsl2 rfl (ly_mp4 L)) ?_
    refine xk_load rfl (p := 14) rfl rfl ?_
    refine xk_ald rfl (p := 15) rfl (v := (0, m 296 n)) ((xal0 (ly_ms4 L) (show n < 12 by omega)).trans (congrArg (fun z => some (0, z)) (hM 296 n (by decide)))) ?_
    refine xk_goto rfl ?_
    refine xk_rete rfl (rfl) ?_
    first | exact (if_pos (by assumption)).symm | exact (if_neg (by assumption)).symm

theorem n_nameOf {d : Nat} {g : xG} {t m : xD} {n r : Nat} (L : xLay g) (hM : Mo t m) (hI : Inv m) (hn : n < 4) (hr : r < 4) : xCall (d) 126 [(2, ((292 : Nat) : Int)), (0, ((n : Nat) : Int)), (0, ((r : Nat) : Int))] g t (xQ g t (some (0, m 303 (12 * n + r)))) := by
  show xOk (d) 126 0 [(2, ((292 : Nat) : Int)), (0, ((n : Nat) : Int)), (0, ((r : Nat) : Int))] [] g t _
  refine xk_load rfl (p := 1) rfl rfl ?_
  refine xk_getf rfl (p := 4) rfl (xob (ly_m L) (by decide)) (v := (2, ((303 : Nat) : Int))) (xsl2 rfl (ly_mp12 L)) ?_
  refine xk_push rfl (p := 6) rfl ?_
  refine xk_load rfl (p := 7) rfl rfl ?_
  refine xk_bin rfl (p := 8) rfl (z := ((12 * n : Nat) : Int)) (congrArg some (xmul_n (n := 12) (m := n) (by omega))) ?_
  refine xk_load rfl (p := 9) rfl rfl ?_
  refine xk_bin rfl (p := 10) rfl (z := ((12 * n + r : Nat) : Int)) (congrArg some (xadd_n (n := 12 * n) (m := r) (by omega))) ?_
  refine xk_ald rfl (p := 11) rfl (v := (0, m 303 (12 * n + r))) ((xal0 (ly_ms12 L) (show 12 * n + r < 48 by omega)).trans (congrArg (fun z => some (0, z)) (hM 303 (12 * n + r) (by decide)))) ?_
  refine xk_rete rfl (rfl) ?_
  rfl

theorem n_old {d : Nat} {g : xG} {t m : xD} {n r : Nat} (L : xLay g) (hM : Mo t m) (hI : Inv m) (hn : n < 4) (hr : r < 4) : xCall (d) 127 [(2, ((292 : Nat) : Int)), (0, ((n : Nat) : Int)), (0, ((r : Nat) : Int))] g t (xQ g t (some (0, m 303 (12 * n + 4 + r)))) := by
  show xOk (d) 127 0 [(2, ((292 : Nat) : Int)), (0, ((n : Nat) : Int)), (0, ((r : Nat) : Int))] [] g t _
  refine xk_load rfl (p := 1) rfl rfl ?_
  refine xk_getf rfl (p := 4) rfl (xob (ly_m L) (by decide)) (v := (2, ((303 : Nat) : Int))) (xsl2 rfl (ly_mp12 L)) ?_
  refine xk_push rfl (p := 6) rfl ?_
  refine xk_load rfl (p := 7) rfl rfl ?_
  refine xk_bin rfl (p := 8) rfl (z := ((12 * n : Nat) : Int)) (congrArg some (xmul_n (n := 12) (m := n) (by omega))) ?_
  refine xk_push rfl (p := 9) rfl ?_
  refine xk_bin rfl (p := 10) rfl (z := ((12 * n + 4 : Nat) : Int)) (congrArg some (xadd_n (n := 12 * n) (m := 4) (by omega))) ?_
  refine xk_load rfl (p := 11) rfl rfl ?_
  refine xk_bin rfl (p := 12) rfl (z := ((12 * n + 4 + r : Nat) : Int)) (congrArg some (xadd_n (n := 12 * n + 4) (m := r) (by omega))) ?_
  refine xk_ald rfl (p := 13) rfl (v := (0, m 303 (12 * n + 4 + r))) ((xal0 (ly_ms12 L) (show 12 * n + 4 + r < 48 by omega)).trans (congrArg (fun z => some (0, z)) (hM 303 (12 * n + 4 + r) (by decide)))) ?_
  refine xk_rete rfl (rfl) ?_
  rfl

theorem n_fresh {d : Nat} {g : xG} {t m : xD} {n r : Nat} (L : xLay g) (hM : Mo t m) (hI : Inv m) (hn : n < 4) (hr : r < 4) : xCall (d) 128 [(2, ((292 : Nat) : Int)), (0, ((n : Nat) : Int)), (0, ((r : Nat) : Int))] g t (xQ g t (some (0, m 303 (12 * n + 8 + r)))) := by
  show xOk (d) 128 0 [(2, ((292 : Nat) : Int)), (0, ((n : Nat) : Int)), (0, ((r : Nat) : Int))] [] g t _
  refine xk_load rfl (p := 1) rfl rfl ?_
  refine xk_getf rfl (p := 4) rfl (xob (ly_m L) (by decide)) (v := (2, ((303 : Nat) : Int))) (xsl2 rfl (ly_mp12 L)) ?_
  refine xk_push rfl (p := 6) rfl ?_
  refine xk_load rfl (p := 7) rfl rfl ?_
  refine xk_bin rfl (p := 8) rfl (z := ((12 * n : Nat) : Int)) (congrArg some (xmul_n (n := 12) (m := n) (by omega))) ?_
  refine xk_push rfl (p := 10) rfl ?_
  refine xk_bin rfl (p := 11) rfl (z := ((12 * n + 8 : Nat) : Int)) (congrArg some (xadd_n (n := 12 * n) (m := 8) (by omega))) ?_
  refine xk_load rfl (p := 12) rfl rfl ?_
  refine xk_bin rfl (p := 13) rfl (z := ((12 * n + 8 + r : Nat) : Int)) (congrArg some (xadd_n (n := 12 * n + 8) (m := r) (by omega))) ?_
  refine xk_ald rfl (p := 14) rfl (v := (0, m 303 (12 * n + 8 + r))) ((xal0 (ly_ms12 L) (show 12 * n + 8 + r < 48 by omega)).trans (congrArg (fun z => some (0, z)) (hM 303 (12 * n + 8 + r) (by decide)))) ?_
  refine xk_rete rfl (rfl) ?_
  rfl

theorem n_rowFor {d : Nat} {g : xG} {t m : xD} {n : Nat} {x : Int} (L : xLay g) (hM : Mo t m) (hI : Inv m) (hn : n < 4) : xCall (d + 1) 129 [(2, ((292 : Nat) : Int)), (0, ((n : Nat) : Int)), (0, x)] g t (xQ g t (some (0, sRow m n x))) := by
  show xOk (d + 1) 129 0 [(2, ((292 : Nat) : Int)), (0, ((n : Nat) : Int)), (0, x), (3, 0)] [] g t _
  have iRn_ := iRn hI hn
  refine xk_push rfl (p := 1) rfl ?_
  refine xk_store rfl (p := 2) rfl (by decide) (Nat.le_of_ble_eq_true rfl) (ls' := [(2, ((292 : Nat) : Int)), (0, ((n : Nat) : Int)), (0, x), (0, 0)]) rfl ?_
  have lp1 : ∀ k : Nat, k ≤ nR m n → (∀ i, i < k → ¬ m 303 (12 * n + i) = x) → xOk (d + 1) 129 2 [(2, ((292 : Nat) : Int)), (0, ((n : Nat) : Int)), (0, x), (0, ((k : Nat) : Int))] [] g t (xQ g t (some (0, sRow m n x))) := by
    refine xk_up (nR m n) (fun k hkk ih1  hi1 => ?_)
    have iRn_ := iRn hI hn
    refine xk_load rfl (p := 3) rfl rfl ?_
    refine xk_load rfl (p := 4) rfl rfl ?_
    refine xk_getf rfl (p := 7) rfl (xob (ly_m L) (by decide)) (v := (2, ((301 : Nat) : Int))) (xsl2 rfl (ly_mp10 L)) ?_
    refine xk_load rfl (p := 8) rfl rfl ?_
    refine xk_ald rfl (p := 9) rfl (v := (0, ((nR m n : Nat) : Int))) ((xal0 (ly_ms10 L) (show n < 4 by omega)).trans (congrArg (fun z => some (0, z)) ((hM 301 n (by decide)).trans (iRn hI (show n < 4 by omega)).1))) ?_
    have iRn_ := iRn hI (show n < 4 by omega)
    refine xk_icmp rfl (p := 12) rfl (fun c9_2 => ?_) (fun c9_2 => ?_)
    · replace c9_2 : ((nR m n : Nat) : Int) ≤ ((k : Nat) : Int) := c9_2
      refine xk_push rfl (p := 31) rfl ?_
      refine xk_rete rfl (rfl) ?_
      exact xixf0 (by omega) hi1
    · replace c9_2 : ¬ (((nR m n : Nat) : Int) ≤ ((k : Nat) : Int)) := c9_2
      refine xk_load rfl (p := 13) rfl rfl ?_
      refine xk_load rfl (p := 14) rfl rfl ?_
      refine xk_load rfl (p := 15) rfl rfl ?_
      refine xk_callp rfl (p := 18) rfl (by decide) rfl (Nat.le_of_ble_eq_true rfl) (Nat.le_of_ble_eq_true rfl) (xrv (ly_m L) (by decide)) (as := [(2, ((292 : Nat) : Int)), (0, ((n : Nat) : Int)), (0, ((k : Nat) : Int))]) (r := []) rfl (v := (0, m 303 (12 * n + k))) (n_nameOf L hM hI (show n < 4 by omega) (show k < 4 by omega)) ?_
      refine xk_load rfl (p := 19) rfl rfl ?_
      refine xk_icmp rfl (p := 22) rfl (fun c19_3 => ?_) (fun c19_3 => ?_)
      · replace c19_3 : ¬ (m 303 (12 * n + k) = x) := c19_3
        refine xk_inc1 rfl (p := 27) rfl (n := k) rfl (by omega) (ls' := [(2, ((292 : Nat) : Int)), (0, ((n : Nat) : Int)), (0, x), (0, ((k + 1 : Nat) : Int))]) rfl ?_
        refine xk_goto rfl ?_
        exact ih1 (by omega)  (by exact xall_up hi1 (by assumption))
      · replace c19_3 : m 303 (12 * n + k) = x := Decidable.not_not.mp c19_3
        refine xk_load rfl (p := 23) rfl rfl ?_
        refine xk_rete rfl (rfl) ?_
        exact xixf1 (by omega) hi1 (by assumption)
  exact lp1 0 (by omega)  (by intro i h; omega)

theorem n_committing {d : Nat} {g : xG} {t m : xD} (L : xLay g) (hM : Mo t m) (hI : Inv m) : xCall (d) 125 [(2, ((292 : Nat) : Int))] g t (xQ g t (some (0, sCom m))) := by
  show xOk (d) 125 0 [(2, ((292 : Nat) : Int)), (3, 0)] [] g t _
  refine xk_push rfl (p := 1) rfl ?_
  refine xk_store rfl (p := 2) rfl (by decide) (Nat.le_of_ble_eq_true rfl) (ls' := [(2, ((292 : Nat) : Int)), (0, 0)]) rfl ?_
  have lp1 : ∀ k : Nat, k ≤ 4 → (∀ i, i < k → ¬ (0 < m 300 i ∧ m 302 i = 2)) → xOk (d) 125 2 [(2, ((292 : Nat) : Int)), (0, ((k : Nat) : Int))] [] g t (xQ g t (some (0, sCom m))) := by
    refine xk_up 4 (fun k hkk ih1  hi1 => ?_)
    refine xk_load rfl (p := 3) rfl rfl ?_
    refine xk_push rfl (p := 4) rfl ?_
    refine xk_icmp rfl (p := 7) rfl (fun c4_2 => ?_) (fun c4_2 => ?_)
    · replace c4_2 : 4 ≤ ((k : Nat) : Int) := c4_2
      refine xk_push rfl (p := 35) rfl ?_
      refine xk_rete rfl (rfl) ?_
      exact xixf0 (by omega) hi1
    · replace c4_2 : ¬ (4 ≤ ((k : Nat) : Int)) := c4_2
      refine xk_load rfl (p := 8) rfl rfl ?_
      refine xk_getf rfl (p := 11) rfl (xob (ly_m L) (by decide)) (v := (2, ((300 : Nat) : Int))) (xsl2 rfl (ly_mp9 L)) ?_
      refine xk_load rfl (p := 12) rfl rfl ?_
      refine xk_ald rfl (p := 13) rfl (v := (0, m 300 k)) ((xal0 (ly_ms9 L) (show k < 4 by omega)).trans (congrArg (fun z => some (0, z)) (hM 300 k (by decide)))) ?_
      have iD_ := iD hI (show k < 4 by omega)
      refine xk_if rfl (p := 16) rfl (fun c13_3 => ?_) (fun c13_3 => ?_)
      · replace c13_3 : m 300 k ≤ 0 := c13_3
        refine xk_inc1 rfl (p := 31) rfl (n := k) rfl (by omega) (ls' := [(2, ((292 : Nat) : Int)), (0, ((k + 1 : Nat) : Int))]) rfl ?_
        refine xk_goto rfl ?_
        exact ih1 (by omega)  (by exact xall_up hi1 (by omega))
      · replace c13_3 : ¬ (m 300 k ≤ 0) := c13_3
        refine xk_load rfl (p := 17) rfl rfl ?_
        refine xk_getf rfl (p := 20) rfl (xob (ly_m L) (by decide)) (v := (2, ((302 : Nat) : Int))) (xsl2 rfl (ly_mp11 L)) ?_
        refine xk_load rfl (p := 21) rfl rfl ?_
        refine xk_ald rfl (p := 22) rfl (v := (0, m 302 k)) ((xal0 (ly_ms11 L) (show k < 4 by omega)).trans (congrArg (fun z => some (0, z)) (hM 302 k (by decide)))) ?_
        have iD_ := iD hI (show k < 4 by omega)
        refine xk_push rfl (p := 23) rfl ?_
        refine xk_icmp rfl (p := 26) rfl (fun c23_4 => ?_) (fun c23_4 => ?_)
        · replace c23_4 : ¬ (m 302 k = 2) := c23_4
          refine xk_inc1 rfl (p := 31) rfl (n := k) rfl (by omega) (ls' := [(2, ((292 : Nat) : Int)), (0, ((k + 1 : Nat) : Int))]) rfl ?_
          refine xk_goto rfl ?_
          exact ih1 (by omega)  (by exact xall_up hi1 (by omega))
        · replace c23_4 : m 302 k = 2 := Decidable.not_not.mp c23_4
          refine xk_load rfl (p := 27) rfl rfl ?_
          refine xk_rete rfl (rfl) ?_
          exact xixf1 (by omega) hi1 (by omega)
  exact lp1 0 (by omega)  (by intro i h; omega)

theorem sRow_rng {m : xD} {d : Nat} {x : Int} : -1 ≤ sRow m d x ∧ sRow m d x < nR m d ∧ (sRow m d x = -1 ∨ 0 ≤ sRow m d x) := xix_rng
theorem sCom_rng {m : xD} : -1 ≤ sCom m ∧ sCom m < 4 ∧ (sCom m = -1 ∨ 0 ≤ sCom m) := xix_rng
theorem sCom_at {m : xD} (h : ¬ sCom m = -1) : 0 < m 300 (sCom m).toNat ∧ m 302 (sCom m).toNat = 2 := (xix_at h).1
def sVal (m : xD) (n : Nat) : Int :=
  if sCom m = (-1) then (sSto m n) else (if m 292 13 ≤ 0 then (sSto m n) else (if sRow m ((sCom m).toNat) ((n : Nat) : Int) = (-1) then (sSto m n) else (m 303 (12 * ((sCom m).toNat) + 8 + ((sRow m ((sCom m).toNat) ((n : Nat) : Int)).toNat)))))
theorem n_value {d : Nat} {g : xG} {t m : xD} {n : Nat} (L : xLay g) (hM : Mo t m) (hI : Inv m) (hn : n < 12) : xCall (d + 2) 130 [(2, ((292 : Nat) : Int)), (0, ((n : Nat) : Int))] g t (xQ g t (some (0, sVal m  n ))) := by
  show xOk (d + 2) 130 0 [(2, ((292 : Nat) : Int)), (0, ((n : Nat) : Int)), (3, 0), (3, 0)] [] g t _
  refine xk_load rfl (p := 1) rfl rfl ?_
  refine xk_callp rfl (p := 4) rfl (by decide) rfl (Nat.le_of_ble_eq_true rfl) (Nat.le_of_ble_eq_true rfl) (xrv (ly_m L) (by decide)) (as := [(2, ((292 : Nat) : Int))]) (r := []) rfl (v := (0, sCom m)) (n_committing L hM hI) ?_
  have sCom_ := sCom_rng (m := m)
  refine xk_store rfl (p := 5) rfl (by decide) (Nat.le_of_ble_eq_true rfl) (ls' := [(2, ((292 : Nat) : Int)), (0, ((n : Nat) : Int)), (0, sCom m), (3, 0)]) rfl ?_
  refine xk_load rfl (p := 6) rfl rfl ?_
  refine xk_push rfl (p := 7) rfl ?_
  refine xk_icmp rfl (p := 10) rfl (fun c7_1 => ?_) (fun c7_1 => ?_)
  · replace c7_1 : sCom m = (-1) := c7_1
    refine xk_push rfl (p := 27) rfl ?_
    refine xk_store rfl (p := 28) rfl (by decide) (Nat.le_of_ble_eq_true rfl) (ls' := [(2, ((292 : Nat) : Int)), (0, ((n : Nat) : Int)), (0, sCom m), (0, (-1))]) rfl ?_
    refine xk_load rfl (p := 29) rfl rfl ?_
    refine xk_push rfl (p := 30) rfl ?_
    refine xk_icmp rfl (p := 33) rfl (fun c30_2 => absurd c30_2 (show ¬ (¬ ((-1) : Int) = ((-1) : Int)) by decide)) (fun c30_2 => ?_)
    refine xk_load rfl (p := 34) rfl rfl ?_
    refine xk_load rfl (p := 35) rfl rfl ?_
    refine xk_callp rfl (p := 38) rfl (by decide) rfl (Nat.le_of_ble_eq_true rfl) (Nat.le_of_ble_eq_true rfl) (xrv (ly_m L) (by decide)) (as := [(2, ((292 : Nat) : Int)), (0, ((n : Nat) : Int))]) (r := []) rfl (v := (0, sSto m n)) (n_stored L hM hI (show n < 12 by omega)) ?_
    refine xk_goto rfl ?_
    refine xk_rete rfl (rfl) ?_
    exact ((if_pos c7_1)).symm
  · replace c7_1 : ¬ (sCom m = (-1)) := c7_1
    refine xk_load rfl (p := 11) rfl rfl ?_
    refine xk_getf rfl (p := 14) rfl (xob (ly_m L) (by decide)) (v := (0, m 292 13)) (xsl0 rfl (hM 292 13 (by decide))) ?_
    refine xk_if rfl (p := 17) rfl (fun c14_3 => ?_) (fun c14_3 => ?_)
    · replace c14_3 : m 292 13 ≤ 0 := c14_3
      refine xk_push rfl (p := 27) rfl ?_
      refine xk_store rfl (p := 28) rfl (by decide) (Nat.le_of_ble_eq_true rfl) (ls' := [(2, ((292 : Nat) : Int)), (0, ((n : Nat) : Int)), (0, sCom m), (0, (-1))]) rfl ?_
      refine xk_load rfl (p := 29) rfl rfl ?_
      refine xk_push rfl (p := 30) rfl ?_
      refine xk_icmp rfl (p := 33) rfl (fun c30_4 => absurd c30_4 (show ¬ (¬ ((-1) : Int) = ((-1) : Int)) by decide)) (fun c30_4 => ?_)
      refine xk_load rfl (p := 34) rfl rfl ?_
      refine xk_load rfl (p := 35) rfl rfl ?_
      refine xk_callp rfl (p := 38) rfl (by decide) rfl (Nat.le_of_ble_eq_true rfl) (Nat.le_of_ble_eq_true rfl) (xrv (ly_m L) (by decide)) (as := [(2, ((292 : Nat) : Int)), (0, ((n : Nat) : Int))]) (r := []) rfl (v := (0, sSto m n)) (n_stored L hM hI (show n < 12 by omega)) ?_
      refine xk_goto rfl ?_
      refine xk_rete rfl (rfl) ?_
      exact ((if_neg c7_1).trans ((if_pos c14_3))).symm
    · replace c14_3 : ¬ (m 292 13 ≤ 0) := c14_3
      refine xk_load rfl (p := 18) rfl rfl ?_
      refine xk_load rfl (p := 19) rfl rfl ?_
      refine xk_load rfl (p := 20) rfl rfl ?_
      refine xk_stk (show _ = (0, ((n : Nat) : Int)) :: (0, (((sCom m).toNat : Nat) : Int)) :: [(2, ((292 : Nat) : Int))] from congrArg (fun z => ((0, ((n : Nat) : Int)) : xV) :: ((0, z) : xV) :: [(2, ((292 : Nat) : Int))]) (Int.toNat_of_nonneg (show 0 ≤ sCom m by omega)).symm) ?_
      refine xk_callp rfl (p := 23) rfl (by decide) rfl (Nat.le_of_ble_eq_true rfl) (Nat.le_of_ble_eq_true rfl) (xrv (ly_m L) (by decide)) (as := [(2, ((292 : Nat) : Int)), (0, (((sCom m).toNat : Nat) : Int)), (0, ((n : Nat) : Int))]) (r := []) rfl (v := (0, sRow m ((sCom m).toNat) ((n : Nat) : Int))) (n_rowFor L hM hI (show (sCom m).toNat < 4 by omega)) ?_
      have sRow_ := sRow_rng (m := m) (d := (sCom m).toNat) (x := ((n : Nat) : Int))
      have iRn_ := iRn hI (show (sCom m).toNat < 4 by omega)
      refine xk_goto rfl ?_
      refine xk_store rfl (p := 28) rfl (by decide) (Nat.le_of_ble_eq_true rfl) (ls' := [(2, ((292 : Nat) : Int)), (0, ((n : Nat) : Int)), (0, sCom m), (0, sRow m ((sCom m).toNat) ((n : Nat) : Int))]) rfl ?_
      refine xk_load rfl (p := 29) rfl rfl ?_
      refine xk_push rfl (p := 30) rfl ?_
      refine xk_icmp rfl (p := 33) rfl (fun c30_5 => ?_) (fun c30_5 => ?_)
      · replace c30_5 : ¬ (sRow m ((sCom m).toNat) ((n : Nat) : Int) = (-1)) := c30_5
        refine xk_load rfl (p := 42) rfl rfl ?_
        refine xk_load rfl (p := 43) rfl rfl ?_
        refine xk_load rfl (p := 44) rfl rfl ?_
        refine xk_stk (show _ = (0, sRow m ((sCom m).toNat) ((n : Nat) : Int)) :: (0, (((sCom m).toNat : Nat) : Int)) :: [(2, ((292 : Nat) : Int))] from congrArg (fun z => ((0, sRow m ((sCom m).toNat) ((n : Nat) : Int)) : xV) :: ((0, z) : xV) :: [(2, ((292 : Nat) : Int))]) (Int.toNat_of_nonneg (show 0 ≤ sCom m by omega)).symm) ?_
        refine xk_stk (show _ = (0, (((sRow m ((sCom m).toNat) ((n : Nat) : Int)).toNat : Nat) : Int)) :: [(0, (((sCom m).toNat : Nat) : Int)), (2, ((292 : Nat) : Int))] from congrArg (fun z => ((0, z) : xV) :: [(0, (((sCom m).toNat : Nat) : Int)), (2, ((292 : Nat) : Int))]) (Int.toNat_of_nonneg (show 0 ≤ sRow m ((sCom m).toNat) ((n : Nat) : Int) by omega)).symm) ?_
        refine xk_callp rfl (p := 47) rfl (by decide) rfl (Nat.le_of_ble_eq_true rfl) (Nat.le_of_ble_eq_true rfl) (xrv (ly_m L) (by decide)) (as := [(2, ((292 : Nat) : Int)), (0, (((sCom m).toNat : Nat) : Int)), (0, (((sRow m ((sCom m).toNat) ((n : Nat) : Int)).toNat : Nat) : Int))]) (r := []) rfl (v := (0, m 303 (12 * ((sCom m).toNat) + 8 + ((sRow m ((sCom m).toNat) ((n : Nat) : Int)).toNat)))) (n_fresh L hM hI (show (sCom m).toNat < 4 by omega) (show (sRow m ((sCom m).toNat) ((n : Nat) : Int)).toNat < 4 by omega)) ?_
        refine xk_rete rfl (rfl) ?_
        exact ((if_neg c7_1).trans ((if_neg c14_3).trans ((if_neg c30_5)))).symm
      · replace c30_5 : sRow m ((sCom m).toNat) ((n : Nat) : Int) = (-1) := Decidable.not_not.mp c30_5
        refine xk_load rfl (p := 34) rfl rfl ?_
        refine xk_load rfl (p := 35) rfl rfl ?_
        refine xk_callp rfl (p := 38) rfl (by decide) rfl (Nat.le_of_ble_eq_true rfl) (Nat.le_of_ble_eq_true rfl) (xrv (ly_m L) (by decide)) (as := [(2, ((292 : Nat) : Int)), (0, ((n : Nat) : Int))]) (r := []) rfl (v := (0, sSto m n)) (n_stored L hM hI (show n < 12 by omega)) ?_
        refine xk_goto rfl ?_
        refine xk_rete rfl (rfl) ?_
        exact ((if_neg c7_1).trans ((if_neg c14_3).trans ((if_pos c30_5)))).symm

theorem n_isFolder {d : Nat} {g : xG} {t m : xD} {n o : Nat} (L : xLay g) (hM : Mo t m) (hI : Inv m) (hn : n < nN m) (ho : o < nN m) : xCall (d) 131 [(2, ((292 : Nat) : Int)), (0, ((n : Nat) : Int)), (0, ((o : Nat) : Int))] g t (xQ g t (some (0, if bFol m n o = true then (1 : Int) else 0))) := by
  show xOk (d) 131 0 [(2, ((292 : Nat) : Int)), (0, ((n : Nat) : Int)), (0, ((o : Nat) : Int)), (3, 0)] [] g t _
  have iNn_ := iNn hI
  have iLo_ := iLn hI ho
  have iLn0_ := iLn hI hn
  refine xk_load rfl (p := 1) rfl rfl ?_
  refine xk_getf rfl (p := 4) rfl (xob (ly_m L) (by decide)) (v := (2, ((295 : Nat) : Int))) (xsl2 rfl (ly_mp3 L)) ?_
  refine xk_load rfl (p := 5) rfl rfl ?_
  refine xk_ald rfl (p := 6) rfl (v := (0, m 295 n)) ((xal0 (ly_ms3 L) (show n < 12 by omega)).trans (congrArg (fun z => some (0, z)) (hM 295 n (by decide)))) ?_
  refine xk_load rfl (p := 7) rfl rfl ?_
  refine xk_getf rfl (p := 10) rfl (xob (ly_m L) (by decide)) (v := (2, ((295 : Nat) : Int))) (xsl2 rfl (ly_mp3 L)) ?_
  refine xk_load rfl (p := 11) rfl rfl ?_
  refine xk_ald rfl (p := 12) rfl (v := (0, m 295 o)) ((xal0 (ly_ms3 L) (show o < 12 by omega)).trans (congrArg (fun z => some (0, z)) (hM 295 o (by decide)))) ?_
  refine xk_icmp rfl (p := 15) rfl (fun c12_1 => ?_) (fun c12_1 => ?_)
  · replace c12_1 : m 295 o ≤ m 295 n := c12_1
    refine xk_push rfl (p := 52) rfl ?_
    refine xk_rete rfl (rfl) ?_
    exact (if_neg (fun h => by have h := bFol_iff.mp h; have h1 := h.1; have h2 := h.2.1; have h3 := h.2.2.1; omega)).symm
  · replace c12_1 : ¬ (m 295 o ≤ m 295 n) := c12_1
    refine xk_load rfl (p := 16) rfl rfl ?_
    refine xk_getf rfl (p := 19) rfl (xob (ly_m L) (by decide)) (v := (2, ((294 : Nat) : Int))) (xsl2 rfl (ly_mp2 L)) ?_
    refine xk_load rfl (p := 20) rfl rfl ?_
    refine xk_ald rfl (p := 21) rfl (v := (0, ((nL m n : Nat) : Int))) ((xal0 (ly_ms2 L) (show n < 12 by omega)).trans (congrArg (fun z => some (0, z)) ((hM 294 n (by decide)).trans (iLn hI (show n < nN m by omega)).1))) ?_
    have iLn_ := iLn hI (show n < nN m by omega)
    refine xk_load rfl (p := 22) rfl rfl ?_
    refine xk_getf rfl (p := 25) rfl (xob (ly_m L) (by decide)) (v := (2, ((294 : Nat) : Int))) (xsl2 rfl (ly_mp2 L)) ?_
    refine xk_load rfl (p := 26) rfl rfl ?_
    refine xk_ald rfl (p := 27) rfl (v := (0, ((nL m o : Nat) : Int))) ((xal0 (ly_ms2 L) (show o < 12 by omega)).trans (congrArg (fun z => some (0, z)) ((hM 294 o (by decide)).trans (iLn hI (show o < nN m by omega)).1))) ?_
    have iLn_ := iLn hI (show o < nN m by omega)
    refine xk_icmp rfl (p := 30) rfl (fun c27_2 => ?_) (fun c27_2 => ?_)
    · replace c27_2 : ((nL m o : Nat) : Int) ≤ ((nL m n : Nat) : Int) := c27_2
      refine xk_push rfl (p := 52) rfl ?_
      refine xk_rete rfl (rfl) ?_
      exact (if_neg (fun h => by have h := bFol_iff.mp h; have h1 := h.1; have h2 := h.2.1; have h3 := h.2.2.1; omega)).symm
    · replace c27_2 : ¬ (((nL m o : Nat) : Int) ≤ ((nL m n : Nat) : Int)) := c27_2
      refine xk_load rfl (p := 31) rfl rfl ?_
      refine xk_getf rfl (p := 34) rfl (xob (ly_m L) (by decide)) (v := (2, ((293 : Nat) : Int))) (xsl2 rfl (ly_mp1 L)) ?_
      refine xk_push rfl (p := 36) rfl ?_
      refine xk_load rfl (p := 37) rfl rfl ?_
      refine xk_bin rfl (p := 38) rfl (z := ((8 * o : Nat) : Int)) (congrArg some (xmul_n (n := 8) (m := o) (by omega))) ?_
      refine xk_load rfl (p := 39) rfl rfl ?_
      refine xk_getf rfl (p := 42) rfl (xob (ly_m L) (by decide)) (v := (2, ((294 : Nat) : Int))) (xsl2 rfl (ly_mp2 L)) ?_
      refine xk_load rfl (p := 43) rfl rfl ?_
      refine xk_ald rfl (p := 44) rfl (v := (0, ((nL m n : Nat) : Int))) ((xal0 (ly_ms2 L) (show n < 12 by omega)).trans (congrArg (fun z => some (0, z)) ((hM 294 n (by decide)).trans (iLn hI (show n < nN m by omega)).1))) ?_
      have iLn_ := iLn hI (show n < nN m by omega)
      refine xk_bin rfl (p := 45) rfl (z := ((8 * o + (nL m n) : Nat) : Int)) (congrArg some (xadd_n (n := 8 * o) (m := nL m n) (by omega))) ?_
      refine xk_ald rfl (p := 46) rfl (v := (0, m 293 (8 * o + (nL m n)))) ((xal0 (ly_ms1 L) (show 8 * o + (nL m n) < 96 by omega)).trans (congrArg (fun z => some (0, z)) (hM 293 (8 * o + (nL m n)) (by decide)))) ?_
      refine xk_push rfl (p := 48) rfl ?_
      refine xk_icmp rfl (p := 51) rfl (fun c48_3 => ?_) (fun c48_3 => ?_)
      · replace c48_3 : m 293 (8 * o + (nL m n)) = 47 := c48_3
        refine xk_push rfl (p := 54) rfl ?_
        refine xk_store rfl (p := 55) rfl (by decide) (Nat.le_of_ble_eq_true rfl) (ls' := [(2, ((292 : Nat) : Int)), (0, ((n : Nat) : Int)), (0, ((o : Nat) : Int)), (0, 0)]) rfl ?_
        have lp4 : ∀ k : Nat, k ≤ nL m n → (∀ i, i < k → m 293 (8 * n + i) = m 293 (8 * o + i)) → xOk (d) 131 55 [(2, ((292 : Nat) : Int)), (0, ((n : Nat) : Int)), (0, ((o : Nat) : Int)), (0, ((k : Nat) : Int))] [] g t (xQ g t (some (0, if bFol m n o = true then (1 : Int) else 0))) := by
          refine xk_up (nL m n) (fun k hkk ih4  hi1 => ?_)
          refine xk_load rfl (p := 56) rfl rfl ?_
          refine xk_load rfl (p := 57) rfl rfl ?_
          refine xk_getf rfl (p := 60) rfl (xob (ly_m L) (by decide)) (v := (2, ((294 : Nat) : Int))) (xsl2 rfl (ly_mp2 L)) ?_
          refine xk_load rfl (p := 61) rfl rfl ?_
          refine xk_ald rfl (p := 62) rfl (v := (0, ((nL m n : Nat) : Int))) ((xal0 (ly_ms2 L) (show n < 12 by omega)).trans (congrArg (fun z => some (0, z)) ((hM 294 n (by decide)).trans (iLn hI (show n < nN m by omega)).1))) ?_
          have iLn_ := iLn hI (show n < nN m by omega)
          refine xk_icmp rfl (p := 65) rfl (fun c62_5 => ?_) (fun c62_5 => ?_)
          · replace c62_5 : ((nL m n : Nat) : Int) ≤ ((k : Nat) : Int) := c62_5
            refine xk_push rfl (p := 99) rfl ?_
            refine xk_rete rfl (rfl) ?_
            exact (if_pos (bFol_iff.mpr ⟨by omega, by omega, by omega, fun i hi => hi1 i (by omega)⟩)).symm
          · replace c62_5 : ¬ (((nL m n : Nat) : Int) ≤ ((k : Nat) : Int)) := c62_5
            refine xk_load rfl (p := 66) rfl rfl ?_
            refine xk_getf rfl (p := 69) rfl (xob (ly_m L) (by decide)) (v := (2, ((293 : Nat) : Int))) (xsl2 rfl (ly_mp1 L)) ?_
            refine xk_push rfl (p := 71) rfl ?_
            refine xk_load rfl (p := 72) rfl rfl ?_
            refine xk_bin rfl (p := 73) rfl (z := ((8 * n : Nat) : Int)) (congrArg some (xmul_n (n := 8) (m := n) (by omega))) ?_
            refine xk_load rfl (p := 74) rfl rfl ?_
            refine xk_bin rfl (p := 75) rfl (z := ((8 * n + k : Nat) : Int)) (congrArg some (xadd_n (n := 8 * n) (m := k) (by omega))) ?_
            refine xk_ald rfl (p := 76) rfl (v := (0, m 293 (8 * n + k))) ((xal0 (ly_ms1 L) (show 8 * n + k < 96 by omega)).trans (congrArg (fun z => some (0, z)) (hM 293 (8 * n + k) (by decide)))) ?_
            refine xk_load rfl (p := 77) rfl rfl ?_
            refine xk_getf rfl (p := 80) rfl (xob (ly_m L) (by decide)) (v := (2, ((293 : Nat) : Int))) (xsl2 rfl (ly_mp1 L)) ?_
            refine xk_push rfl (p := 82) rfl ?_
            refine xk_load rfl (p := 83) rfl rfl ?_
            refine xk_bin rfl (p := 84) rfl (z := ((8 * o : Nat) : Int)) (congrArg some (xmul_n (n := 8) (m := o) (by omega))) ?_
            refine xk_load rfl (p := 85) rfl rfl ?_
            refine xk_bin rfl (p := 86) rfl (z := ((8 * o + k : Nat) : Int)) (congrArg some (xadd_n (n := 8 * o) (m := k) (by omega))) ?_
            refine xk_ald rfl (p := 87) rfl (v := (0, m 293 (8 * o + k))) ((xal0 (ly_ms1 L) (show 8 * o + k < 96 by omega)).trans (congrArg (fun z => some (0, z)) (hM 293 (8 * o + k) (by decide)))) ?_
            refine xk_icmp rfl (p := 90) rfl (fun c87_6 => ?_) (fun c87_6 => ?_)
            · replace c87_6 : m 293 (8 * n + k) = m 293 (8 * o + k) := c87_6
              refine xk_inc1 rfl (p := 95) rfl (n := k) rfl (by omega) (ls' := [(2, ((292 : Nat) : Int)), (0, ((n : Nat) : Int)), (0, ((o : Nat) : Int)), (0, ((k + 1 : Nat) : Int))]) rfl ?_
              refine xk_goto rfl ?_
              exact ih4 (by omega)  (by exact xall_up hi1 (by assumption))
            · replace c87_6 : ¬ (m 293 (8 * n + k) = m 293 (8 * o + k)) := c87_6
              refine xk_push rfl (p := 91) rfl ?_
              refine xk_rete rfl (rfl) ?_
              exact (if_neg (fun h => by have h := (bFol_iff.mp h).2.2.2 k (by omega); contradiction)).symm
        exact lp4 0 (by omega)  (by intro i h; omega)
      · replace c48_3 : ¬ (m 293 (8 * o + (nL m n)) = 47) := c48_3
        refine xk_push rfl (p := 52) rfl ?_
        refine xk_rete rfl (rfl) ?_
        exact (if_neg (fun h => by have h := bFol_iff.mp h; have h1 := h.1; have h2 := h.2.1; have h3 := h.2.2.1; omega)).symm

/-- where two names begin to differ -/
def sDif (m : xD) (a b : Nat) : Nat := xfst (fun i => decide (nL m a ≤ i ∨ nL m b ≤ i ∨ ¬ m 293 (8 * a + i) = m 293 (8 * b + i))) 8
def bBef (m : xD) (a b : Nat) : Bool := decide ((sDif m a b = nL m a ∨ sDif m a b = nL m b) ∧ nL m a < nL m b ∨ ¬ (sDif m a b = nL m a ∨ sDif m a b = nL m b) ∧ m 293 (8 * a + sDif m a b) < m 293 (8 * b + sDif m a b))
theorem bBef_iff {m : xD} {a b : Nat} : bBef m a b = true ↔ ((sDif m a b = nL m a ∨ sDif m a b = nL m b) ∧ nL m a < nL m b ∨ ¬ (sDif m a b = nL m a ∨ sDif m a b = nL m b) ∧ m 293 (8 * a + sDif m a b) < m 293 (8 * b + sDif m a b)) := decide_eq_true_iff
theorem sDif_eq {m : xD} {a b k : Nat} (hk : k ≤ 8) (h1 : ∀ i, i < k → i < nL m a ∧ i < nL m b ∧ m 293 (8 * a + i) = m 293 (8 * b + i)) (h2 : nL m a ≤ k ∨ nL m b ≤ k ∨ ¬ m 293 (8 * a + k) = m 293 (8 * b + k)) : sDif m a b = k := xfeq hk (fun i hi => by have := h1 i hi; omega) h2
theorem n_isBefore {d : Nat} {g : xG} {t m : xD} {n o : Nat} (L : xLay g) (hM : Mo t m) (hI : Inv m) (hn : n < nN m) (ho : o < nN m) : xCall (d) 132 [(2, ((292 : Nat) : Int)), (0, ((n : Nat) : Int)), (0, ((o : Nat) : Int))] g t (xQ g t (some (0, if bBef m n o = true then (1 : Int) else 0))) := by
  show xOk (d) 132 0 [(2, ((292 : Nat) : Int)), (0, ((n : Nat) : Int)), (0, ((o : Nat) : Int)), (3, 0)] [] g t _
  have iNn_ := iNn hI
  have iLo_ := iLn hI ho
  have iLn0_ := iLn hI hn
  refine xk_push rfl (p := 1) rfl ?_
  refine xk_store rfl (p := 2) rfl (by decide) (Nat.le_of_ble_eq_true rfl) (ls' := [(2, ((292 : Nat) : Int)), (0, ((n : Nat) : Int)), (0, ((o : Nat) : Int)), (0, 0)]) rfl ?_
  have lp1 : ∀ k : Nat, k ≤ 8 → (∀ i, i < k → i < nL m n ∧ i < nL m o ∧ m 293 (8 * n + i) = m 293 (8 * o + i)) → xOk (d) 132 2 [(2, ((292 : Nat) : Int)), (0, ((n : Nat) : Int)), (0, ((o : Nat) : Int)), (0, ((k : Nat) : Int))] [] g t (xQ g t (some (0, if bBef m n o = true then (1 : Int) else 0))) := by
    refine xk_up 8 (fun k hkk ih1  hi1 => ?_)
    have hi2 : k ≤ nL m n ∧ k ≤ nL m o := by have := hi1 (k - 1); omega
    refine xk_load rfl (p := 3) rfl rfl ?_
    refine xk_load rfl (p := 4) rfl rfl ?_
    refine xk_getf rfl (p := 7) rfl (xob (ly_m L) (by decide)) (v := (2, ((294 : Nat) : Int))) (xsl2 rfl (ly_mp2 L)) ?_
    refine xk_load rfl (p := 8) rfl rfl ?_
    refine xk_ald rfl (p := 9) rfl (v := (0, ((nL m n : Nat) : Int))) ((xal0 (ly_ms2 L) (show n < 12 by omega)).trans (congrArg (fun z => some (0, z)) ((hM 294 n (by decide)).trans (iLn hI (show n < nN m by omega)).1))) ?_
    have iLn_ := iLn hI (show n < nN m by omega)
    refine xk_icmp rfl (p := 12) rfl (fun c9_2 => ?_) (fun c9_2 => ?_)
    · replace c9_2 : ((nL m n : Nat) : Int) ≤ ((k : Nat) : Int) := c9_2
      refine xk_load rfl (p := 54) rfl rfl ?_
      refine xk_load rfl (p := 55) rfl rfl ?_
      refine xk_getf rfl (p := 58) rfl (xob (ly_m L) (by decide)) (v := (2, ((294 : Nat) : Int))) (xsl2 rfl (ly_mp2 L)) ?_
      refine xk_load rfl (p := 59) rfl rfl ?_
      refine xk_ald rfl (p := 60) rfl (v := (0, ((nL m n : Nat) : Int))) ((xal0 (ly_ms2 L) (show n < 12 by omega)).trans (congrArg (fun z => some (0, z)) ((hM 294 n (by decide)).trans (iLn hI (show n < nN m by omega)).1))) ?_
      have iLn_ := iLn hI (show n < nN m by omega)
      refine xk_icmp rfl (p := 63) rfl (fun c60_3 => ?_) (fun c60_3 => ?_)
      · replace c60_3 : ((k : Nat) : Int) = ((nL m n : Nat) : Int) := c60_3
        refine xk_load rfl (p := 74) rfl rfl ?_
        refine xk_getf rfl (p := 77) rfl (xob (ly_m L) (by decide)) (v := (2, ((294 : Nat) : Int))) (xsl2 rfl (ly_mp2 L)) ?_
        refine xk_load rfl (p := 78) rfl rfl ?_
        refine xk_ald rfl (p := 79) rfl (v := (0, ((nL m n : Nat) : Int))) ((xal0 (ly_ms2 L) (show n < 12 by omega)).trans (congrArg (fun z => some (0, z)) ((hM 294 n (by decide)).trans (iLn hI (show n < nN m by omega)).1))) ?_
        have iLn_ := iLn hI (show n < nN m by omega)
        refine xk_load rfl (p := 80) rfl rfl ?_
        refine xk_getf rfl (p := 83) rfl (xob (ly_m L) (by decide)) (v := (2, ((294 : Nat) : Int))) (xsl2 rfl (ly_mp2 L)) ?_
        refine xk_load rfl (p := 84) rfl rfl ?_
        refine xk_ald rfl (p := 85) rfl (v := (0, ((nL m o : Nat) : Int))) ((xal0 (ly_ms2 L) (show o < 12 by omega)).trans (congrArg (fun z => some (0, z)) ((hM 294 o (by decide)).trans (iLn hI (show o < nN m by omega)).1))) ?_
        have iLn_ := iLn hI (show o < nN m by omega)
        refine xk_icmp rfl (p := 88) rfl (fun c85_4 => ?_) (fun c85_4 => ?_)
        · replace c85_4 : ((nL m o : Nat) : Int) ≤ ((nL m n : Nat) : Int) := c85_4
          refine xk_push rfl (p := 93) rfl ?_
          refine xk_rete rfl (rfl) ?_
          have e := sDif_eq (m := m) (a := n) (b := o) (k := k) (by omega) hi1 (by omega)
          exact (if_neg (fun h => by have h := bBef_iff.mp h; rw [e] at h; omega)).symm
        · replace c85_4 : ¬ (((nL m o : Nat) : Int) ≤ ((nL m n : Nat) : Int)) := c85_4
          refine xk_push rfl (p := 89) rfl ?_
          refine xk_goto rfl ?_
          refine xk_rete rfl (rfl) ?_
          have e := sDif_eq (m := m) (a := n) (b := o) (k := k) (by omega) hi1 (by omega)
          exact (if_pos (bBef_iff.mpr (by rw [e]; omega))).symm
      · replace c60_3 : ¬ (((k : Nat) : Int) = ((nL m n : Nat) : Int)) := c60_3
        refine xk_load rfl (p := 64) rfl rfl ?_
        refine xk_load rfl (p := 65) rfl rfl ?_
        refine xk_getf rfl (p := 68) rfl (xob (ly_m L) (by decide)) (v := (2, ((294 : Nat) : Int))) (xsl2 rfl (ly_mp2 L)) ?_
        refine xk_load rfl (p := 69) rfl rfl ?_
        refine xk_ald rfl (p := 70) rfl (v := (0, ((nL m o : Nat) : Int))) ((xal0 (ly_ms2 L) (show o < 12 by omega)).trans (congrArg (fun z => some (0, z)) ((hM 294 o (by decide)).trans (iLn hI (show o < nN m by omega)).1))) ?_
        have iLn_ := iLn hI (show o < nN m by omega)
        refine xk_icmp rfl (p := 73) rfl (fun c70_5 => ?_) (fun c70_5 => ?_)
        · replace c70_5 : ¬ (((k : Nat) : Int) = ((nL m o : Nat) : Int)) := c70_5
          refine xk_load rfl (p := 95) rfl rfl ?_
          refine xk_getf rfl (p := 98) rfl (xob (ly_m L) (by decide)) (v := (2, ((293 : Nat) : Int))) (xsl2 rfl (ly_mp1 L)) ?_
          refine xk_push rfl (p := 100) rfl ?_
          refine xk_load rfl (p := 101) rfl rfl ?_
          refine xk_bin rfl (p := 102) rfl (z := ((8 * n : Nat) : Int)) (congrArg some (xmul_n (n := 8) (m := n) (by omega))) ?_
          refine xk_load rfl (p := 103) rfl rfl ?_
          refine xk_bin rfl (p := 104) rfl (z := ((8 * n + k : Nat) : Int)) (congrArg some (xadd_n (n := 8 * n) (m := k) (by omega))) ?_
          refine xk_ald rfl (p := 105) rfl (v := (0, m 293 (8 * n + k))) ((xal0 (ly_ms1 L) (show 8 * n + k < 96 by omega)).trans (congrArg (fun z => some (0, z)) (hM 293 (8 * n + k) (by decide)))) ?_
          refine xk_load rfl (p := 106) rfl rfl ?_
          refine xk_getf rfl (p := 109) rfl (xob (ly_m L) (by decide)) (v := (2, ((293 : Nat) : Int))) (xsl2 rfl (ly_mp1 L)) ?_
          refine xk_push rfl (p := 111) rfl ?_
          refine xk_load rfl (p := 112) rfl rfl ?_
          refine xk_bin rfl (p := 113) rfl (z := ((8 * o : Nat) : Int)) (congrArg some (xmul_n (n := 8) (m := o) (by omega))) ?_
          refine xk_load rfl (p := 114) rfl rfl ?_
          refine xk_bin rfl (p := 115) rfl (z := ((8 * o + k : Nat) : Int)) (congrArg some (xadd_n (n := 8 * o) (m := k) (by omega))) ?_
          refine xk_ald rfl (p := 116) rfl (v := (0, m 293 (8 * o + k))) ((xal0 (ly_ms1 L) (show 8 * o + k < 96 by omega)).trans (congrArg (fun z => some (0, z)) (hM 293 (8 * o + k) (by decide)))) ?_
          refine xk_icmp rfl (p := 119) rfl (fun c116_6 => ?_) (fun c116_6 => ?_)
          · replace c116_6 : m 293 (8 * o + k) ≤ m 293 (8 * n + k) := c116_6
            refine xk_push rfl (p := 124) rfl ?_
            refine xk_rete rfl (rfl) ?_
            have e := sDif_eq (m := m) (a := n) (b := o) (k := k) (by omega) hi1 (by omega)
            exact (if_neg (fun h => by have h := bBef_iff.mp h; rw [e] at h; omega)).symm
          · replace c116_6 : ¬ (m 293 (8 * o + k) ≤ m 293 (8 * n + k)) := c116_6
            refine xk_push rfl (p := 120) rfl ?_
            refine xk_goto rfl ?_
            refine xk_rete rfl (rfl) ?_
            have e := sDif_eq (m := m) (a := n) (b := o) (k := k) (by omega) hi1 (by omega)
            exact (if_pos (bBef_iff.mpr (by rw [e]; omega))).symm
        · replace c70_5 : ((k : Nat) : Int) = ((nL m o : Nat) : Int) := Decidable.not_not.mp c70_5
          refine xk_load rfl (p := 74) rfl rfl ?_
          refine xk_getf rfl (p := 77) rfl (xob (ly_m L) (by decide)) (v := (2, ((294 : Nat) : Int))) (xsl2 rfl (ly_mp2 L)) ?_
          refine xk_load rfl (p := 78) rfl rfl ?_
          refine xk_ald rfl (p := 79) rfl (v := (0, ((nL m n : Nat) : Int))) ((xal0 (ly_ms2 L) (show n < 12 by omega)).trans (congrArg (fun z => some (0, z)) ((hM 294 n (by decide)).trans (iLn hI (show n < nN m by omega)).1))) ?_
          have iLn_ := iLn hI (show n < nN m by omega)
          refine xk_load rfl (p := 80) rfl rfl ?_
          refine xk_getf rfl (p := 83) rfl (xob (ly_m L) (by decide)) (v := (2, ((294 : Nat) : Int))) (xsl2 rfl (ly_mp2 L)) ?_
          refine xk_load rfl (p := 84) rfl rfl ?_
          refine xk_ald rfl (p := 85) rfl (v := (0, ((nL m o : Nat) : Int))) ((xal0 (ly_ms2 L) (show o < 12 by omega)).trans (congrArg (fun z => some (0, z)) ((hM 294 o (by decide)).trans (iLn hI (show o < nN m by omega)).1))) ?_
          have iLn_ := iLn hI (show o < nN m by omega)
          refine xk_icmp rfl (p := 88) rfl (fun c85_7 => ?_) (fun c85_7 => ?_)
          · replace c85_7 : ((nL m o : Nat) : Int) ≤ ((nL m n : Nat) : Int) := c85_7
            refine xk_push rfl (p := 93) rfl ?_
            refine xk_rete rfl (rfl) ?_
            have e := sDif_eq (m := m) (a := n) (b := o) (k := k) (by omega) hi1 (by omega)
            exact (if_neg (fun h => by have h := bBef_iff.mp h; rw [e] at h; omega)).symm
          · replace c85_7 : ¬ (((nL m o : Nat) : Int) ≤ ((nL m n : Nat) : Int)) := c85_7
            refine xk_push rfl (p := 89) rfl ?_
            refine xk_goto rfl ?_
            refine xk_rete rfl (rfl) ?_
            have e := sDif_eq (m := m) (a := n) (b := o) (k := k) (by omega) hi1 (by omega)
            exact (if_pos (bBef_iff.mpr (by rw [e]; omega))).symm
    · replace c9_2 : ¬ (((nL m n : Nat) : Int) ≤ ((k : Nat) : Int)) := c9_2
      refine xk_load rfl (p := 13) rfl rfl ?_
      refine xk_load rfl (p := 14) rfl rfl ?_
      refine xk_getf rfl (p := 17) rfl (xob (ly_m L) (by decide)) (v := (2, ((294 : Nat) : Int))) (xsl2 rfl (ly_mp2 L)) ?_
      refine xk_load rfl (p := 18) rfl rfl ?_
      refine xk_ald rfl (p := 19) rfl (v := (0, ((nL m o : Nat) : Int))) ((xal0 (ly_ms2 L) (show o < 12 by omega)).trans (congrArg (fun z => some (0, z)) ((hM 294 o (by decide)).trans (iLn hI (show o < nN m by omega)).1))) ?_
      have iLn_ := iLn hI (show o < nN m by omega)
      refine xk_icmp rfl (p := 22) rfl (fun c19_8 => ?_) (fun c19_8 => ?_)
      · replace c19_8 : ((nL m o : Nat) : Int) ≤ ((k : Nat) : Int) := c19_8
        refine xk_load rfl (p := 54) rfl rfl ?_
        refine xk_load rfl (p := 55) rfl rfl ?_
        refine xk_getf rfl (p := 58) rfl (xob (ly_m L) (by decide)) (v := (2, ((294 : Nat) : Int))) (xsl2 rfl (ly_mp2 L)) ?_
        refine xk_load rfl (p := 59) rfl rfl ?_
        refine xk_ald rfl (p := 60) rfl (v := (0, ((nL m n : Nat) : Int))) ((xal0 (ly_ms2 L) (show n < 12 by omega)).trans (congrArg (fun z => some (0, z)) ((hM 294 n (by decide)).trans (iLn hI (show n < nN m by omega)).1))) ?_
        have iLn_ := iLn hI (show n < nN m by omega)
        refine xk_icmp rfl (p := 63) rfl (fun c60_9 => ?_) (fun c60_9 => ?_)
        · replace c60_9 : ((k : Nat) : Int) = ((nL m n : Nat) : Int) := c60_9
          refine xk_load rfl (p := 74) rfl rfl ?_
          refine xk_getf rfl (p := 77) rfl (xob (ly_m L) (by decide)) (v := (2, ((294 : Nat) : Int))) (xsl2 rfl (ly_mp2 L)) ?_
          refine xk_load rfl (p := 78) rfl rfl ?_
          refine xk_ald rfl (p := 79) rfl (v := (0, ((nL m n : Nat) : Int))) ((xal0 (ly_ms2 L) (show n < 12 by omega)).trans (congrArg (fun z => some (0, z)) ((hM 294 n (by decide)).trans (iLn hI (show n < nN m by omega)).1))) ?_
          have iLn_ := iLn hI (show n < nN m by omega)
          refine xk_load rfl (p := 80) rfl rfl ?_
          refine xk_getf rfl (p := 83) rfl (xob (ly_m L) (by decide)) (v := (2, ((294 : Nat) : Int))) (xsl2 rfl (ly_mp2 L)) ?_
          refine xk_load rfl (p := 84) rfl rfl ?_
          refine xk_ald rfl (p := 85) rfl (v := (0, ((nL m o : Nat) : Int))) ((xal0 (ly_ms2 L) (show o < 12 by omega)).trans (congrArg (fun z => some (0, z)) ((hM 294 o (by decide)).trans (iLn hI (show o < nN m by omega)).1))) ?_
          have iLn_ := iLn hI (show o < nN m by omega)
          refine xk_icmp rfl (p := 88) rfl (fun c85_10 => ?_) (fun c85_10 => ?_)
          · replace c85_10 : ((nL m o : Nat) : Int) ≤ ((nL m n : Nat) : Int) := c85_10
            refine xk_push rfl (p := 93) rfl ?_
            refine xk_rete rfl (rfl) ?_
            have e := sDif_eq (m := m) (a := n) (b := o) (k := k) (by omega) hi1 (by omega)
            exact (if_neg (fun h => by have h := bBef_iff.mp h; rw [e] at h; omega)).symm
          · replace c85_10 : ¬ (((nL m o : Nat) : Int) ≤ ((nL m n : Nat) : Int)) := c85_10
            refine xk_push rfl (p := 89) rfl ?_
            refine xk_goto rfl ?_
            refine xk_rete rfl (rfl) ?_
            have e := sDif_eq (m := m) (a := n) (b := o) (k := k) (by omega) hi1 (by omega)
            exact (if_pos (bBef_iff.mpr (by rw [e]; omega))).symm
        · replace c60_9 : ¬ (((k : Nat) : Int) = ((nL m n : Nat) : Int)) := c60_9
          refine xk_load rfl (p := 64) rfl rfl ?_
          refine xk_load rfl (p := 65) rfl rfl ?_
          refine xk_getf rfl (p := 68) rfl (xob (ly_m L) (by decide)) (v := (2, ((294 : Nat) : Int))) (xsl2 rfl (ly_mp2 L)) ?_
          refine xk_load rfl (p := 69) rfl rfl ?_
          refine xk_ald rfl (p := 70) rfl (v := (0, ((nL m o : Nat) : Int))) ((xal0 (ly_ms2 L) (show o < 12 by omega)).trans (congrArg (fun z => some (0, z)) ((hM 294 o (by decide)).trans (iLn hI (show o < nN m by omega)).1))) ?_
          have iLn_ := iLn hI (show o < nN m by omega)
          refine xk_icmp rfl (p := 73) rfl (fun c70_11 => ?_) (fun c70_11 => ?_)
          · replace c70_11 : ¬ (((k : Nat) : Int) = ((nL m o : Nat) : Int)) := c70_11
            refine xk_load rfl (p := 95) rfl rfl ?_
            refine xk_getf rfl (p := 98) rfl (xob (ly_m L) (by decide)) (v := (2, ((293 : Nat) : Int))) (xsl2 rfl (ly_mp1 L)) ?_
            refine xk_push rfl (p := 100) rfl ?_
            refine xk_load rfl (p := 101) rfl rfl ?_
            refine xk_bin rfl (p := 102) rfl (z := ((8 * n : Nat) : Int)) (congrArg some (xmul_n (n := 8) (m := n) (by omega))) ?_
            refine xk_load rfl (p := 103) rfl rfl ?_
            refine xk_bin rfl (p := 104) rfl (z := ((8 * n + k : Nat) : Int)) (congrArg some (xadd_n (n := 8 * n) (m := k) (by omega))) ?_
            refine xk_ald rfl (p := 105) rfl (v := (0, m 293 (8 * n + k))) ((xal0 (ly_ms1 L) (show 8 * n + k < 96 by omega)).trans (congrArg (fun z => some (0, z)) (hM 293 (8 * n + k) (by decide)))) ?_
            refine xk_load rfl (p := 106) rfl rfl ?_
            refine xk_getf rfl (p := 109) rfl (xob (ly_m L) (by decide)) (v := (2, ((293 : Nat) : Int))) (xsl2 rfl (ly_mp1 L)) ?_
            refine xk_push rfl (p := 111) rfl ?_
            refine xk_load rfl (p := 112) rfl rfl ?_
            refine xk_bin rfl (p := 113) rfl (z := ((8 * o : Nat) : Int)) (congrArg some (xmul_n (n := 8) (m := o) (by omega))) ?_
            refine xk_load rfl (p := 114) rfl rfl ?_
            refine xk_bin rfl (p := 115) rfl (z := ((8 * o + k : Nat) : Int)) (congrArg some (xadd_n (n := 8 * o) (m := k) (by omega))) ?_
            refine xk_ald rfl (p := 116) rfl (v := (0, m 293 (8 * o + k))) ((xal0 (ly_ms1 L) (show 8 * o + k < 96 by omega)).trans (congrArg (fun z => some (0, z)) (hM 293 (8 * o + k) (by decide)))) ?_
            refine xk_icmp rfl (p := 119) rfl (fun c116_12 => ?_) (fun c116_12 => ?_)
            · replace c116_12 : m 293 (8 * o + k) ≤ m 293 (8 * n + k) := c116_12
              refine xk_push rfl (p := 124) rfl ?_
              refine xk_rete rfl (rfl) ?_
              have e := sDif_eq (m := m) (a := n) (b := o) (k := k) (by omega) hi1 (by omega)
              exact (if_neg (fun h => by have h := bBef_iff.mp h; rw [e] at h; omega)).symm
            · replace c116_12 : ¬ (m 293 (8 * o + k) ≤ m 293 (8 * n + k)) := c116_12
              refine xk_push rfl (p := 120) rfl ?_
              refine xk_goto rfl ?_
              refine xk_rete rfl (rfl) ?_
              have e := sDif_eq (m := m) (a := n) (b := o) (k := k) (by omega) hi1 (by omega)
              exact (if_pos (bBef_iff.mpr (by rw [e]; omega))).symm
          · replace c70_11 : ((k : Nat) : Int) = ((nL m o : Nat) : Int) := Decidable.not_not.mp c70_11
            refine xk_load rfl (p := 74) rfl rfl ?_
            refine xk_getf rfl (p := 77) rfl (xob (ly_m L) (by decide)) (v := (2, ((294 : Nat) : Int))) (xsl2 rfl (ly_mp2 L)) ?_
            refine xk_load rfl (p := 78) rfl rfl ?_
            refine xk_ald rfl (p := 79) rfl (v := (0, ((nL m n : Nat) : Int))) ((xal0 (ly_ms2 L) (show n < 12 by omega)).trans (congrArg (fun z => some (0, z)) ((hM 294 n (by decide)).trans (iLn hI (show n < nN m by omega)).1))) ?_
            have iLn_ := iLn hI (show n < nN m by omega)
            refine xk_load rfl (p := 80) rfl rfl ?_
            refine xk_getf rfl (p := 83) rfl (xob (ly_m L) (by decide)) (v := (2, ((294 : Nat) : Int))) (xsl2 rfl (ly_mp2 L)) ?_
            refine xk_load rfl (p := 84) rfl rfl ?_
            refine xk_ald rfl (p := 85) rfl (v := (0, ((nL m o : Nat) : Int))) ((xal0 (ly_ms2 L) (show o < 12 by omega)).trans (congrArg (fun z => some (0, z)) ((hM 294 o (by decide)).trans (iLn hI (show o < nN m by omega)).1))) ?_
            have iLn_ := iLn hI (show o < nN m by omega)
            refine xk_icmp rfl (p := 88) rfl (fun c85_13 => ?_) (fun c85_13 => ?_)
            · replace c85_13 : ((nL m o : Nat) : Int) ≤ ((nL m n : Nat) : Int) := c85_13
              refine xk_push rfl (p := 93) rfl ?_
              refine xk_rete rfl (rfl) ?_
              have e := sDif_eq (m := m) (a := n) (b := o) (k := k) (by omega) hi1 (by omega)
              exact (if_neg (fun h => by have h := bBef_iff.mp h; rw [e] at h; omega)).symm
            · replace c85_13 : ¬ (((nL m o : Nat) : Int) ≤ ((nL m n : Nat) : Int)) := c85_13
              refine xk_push rfl (p := 89) rfl ?_
              refine xk_goto rfl ?_
              refine xk_rete rfl (rfl) ?_
              have e := sDif_eq (m := m) (a := n) (b := o) (k := k) (by omega) hi1 (by omega)
              exact (if_pos (bBef_iff.mpr (by rw [e]; omega))).symm
      · replace c19_8 : ¬ (((nL m o : Nat) : Int) ≤ ((k : Nat) : Int)) := c19_8
        refine xk_load rfl (p := 23) rfl rfl ?_
        refine xk_getf rfl (p := 26) rfl (xob (ly_m L) (by decide)) (v := (2, ((293 : Nat) : Int))) (xsl2 rfl (ly_mp1 L)) ?_
        refine xk_push rfl (p := 28) rfl ?_
        refine xk_load rfl (p := 29) rfl rfl ?_
        refine xk_bin rfl (p := 30) rfl (z := ((8 * n : Nat) : Int)) (congrArg some (xmul_n (n := 8) (m := n) (by omega))) ?_
        refine xk_load rfl (p := 31) rfl rfl ?_
        refine xk_bin rfl (p := 32) rfl (z := ((8 * n + k : Nat) : Int)) (congrArg some (xadd_n (n := 8 * n) (m := k) (by omega))) ?_
        refine xk_ald rfl (p := 33) rfl (v := (0, m 293 (8 * n + k))) ((xal0 (ly_ms1 L) (show 8 * n + k < 96 by omega)).trans (congrArg (fun z => some (0, z)) (hM 293 (8 * n + k) (by decide)))) ?_
        refine xk_load rfl (p := 34) rfl rfl ?_
        refine xk_getf rfl (p := 37) rfl (xob (ly_m L) (by decide)) (v := (2, ((293 : Nat) : Int))) (xsl2 rfl (ly_mp1 L)) ?_
        refine xk_push rfl (p := 39) rfl ?_
        refine xk_load rfl (p := 40) rfl rfl ?_
        refine xk_bin rfl (p := 41) rfl (z := ((8 * o : Nat) : Int)) (congrArg some (xmul_n (n := 8) (m := o) (by omega))) ?_
        refine xk_load rfl (p := 42) rfl rfl ?_
        refine xk_bin rfl (p := 43) rfl (z := ((8 * o + k : Nat) : Int)) (congrArg some (xadd_n (n := 8 * o) (m := k) (by omega))) ?_
        refine xk_ald rfl (p := 44) rfl (v := (0, m 293 (8 * o + k))) ((xal0 (ly_ms1 L) (show 8 * o + k < 96 by omega)).trans (congrArg (fun z => some (0, z)) (hM 293 (8 * o + k) (by decide)))) ?_
        refine xk_icmp rfl (p := 47) rfl (fun c44_14 => ?_) (fun c44_14 => ?_)
        · replace c44_14 : ¬ (m 293 (8 * n + k) = m 293 (8 * o + k)) := c44_14
          refine xk_load rfl (p := 54) rfl rfl ?_
          refine xk_load rfl (p := 55) rfl rfl ?_
          refine xk_getf rfl (p := 58) rfl (xob (ly_m L) (by decide)) (v := (2, ((294 : Nat) : Int))) (xsl2 rfl (ly_mp2 L)) ?_
          refine xk_load rfl (p := 59) rfl rfl ?_
          refine xk_ald rfl (p := 60) rfl (v := (0, ((nL m n : Nat) : Int))) ((xal0 (ly_ms2 L) (show n < 12 by omega)).trans (congrArg (fun z => some (0, z)) ((hM 294 n (by decide)).trans (iLn hI (show n < nN m by omega)).1))) ?_
          have iLn_ := iLn hI (show n < nN m by omega)
          refine xk_icmp rfl (p := 63) rfl (fun c60_15 => ?_) (fun c60_15 => ?_)
          · replace c60_15 : ((k : Nat) : Int) = ((nL m n : Nat) : Int) := c60_15
            refine xk_load rfl (p := 74) rfl rfl ?_
            refine xk_getf rfl (p := 77) rfl (xob (ly_m L) (by decide)) (v := (2, ((294 : Nat) : Int))) (xsl2 rfl (ly_mp2 L)) ?_
            refine xk_load rfl (p := 78) rfl rfl ?_
            refine xk_ald rfl (p := 79) rfl (v := (0, ((nL m n : Nat) : Int))) ((xal0 (ly_ms2 L) (show n < 12 by omega)).trans (congrArg (fun z => some (0, z)) ((hM 294 n (by decide)).trans (iLn hI (show n < nN m by omega)).1))) ?_
            have iLn_ := iLn hI (show n < nN m by omega)
            refine xk_load rfl (p := 80) rfl rfl ?_
            refine xk_getf rfl (p := 83) rfl (xob (ly_m L) (by decide)) (v := (2, ((294 : Nat) : Int))) (xsl2 rfl (ly_mp2 L)) ?_
            refine xk_load rfl (p := 84) rfl rfl ?_
            refine xk_ald rfl (p := 85) rfl (v := (0, ((nL m o : Nat) : Int))) ((xal0 (ly_ms2 L) (show o < 12 by omega)).trans (congrArg (fun z => some (0, z)) ((hM 294 o (by decide)).trans (iLn hI (show o < nN m by omega)).1))) ?_
            have iLn_ := iLn hI (show o < nN m by omega)
            refine xk_icmp rfl (p := 88) rfl (fun c85_16 => ?_) (fun c85_16 => ?_)
            · replace c85_16 : ((nL m o : Nat) : Int) ≤ ((nL m n : Nat) : Int) := c85_16
              refine xk_push rfl (p := 93) rfl ?_
              refine xk_rete rfl (rfl) ?_
              have e := sDif_eq (m := m) (a := n) (b := o) (k := k) (by omega) hi1 (by omega)
              exact (if_neg (fun h => by have h := bBef_iff.mp h; rw [e] at h; omega)).symm
            · replace c85_16 : ¬ (((nL m o : Nat) : Int) ≤ ((nL m n : Nat) : Int)) := c85_16
              refine xk_push rfl (p := 89) rfl ?_
              refine xk_goto rfl ?_
              refine xk_rete rfl (rfl) ?_
              have e := sDif_eq (m := m) (a := n) (b := o) (k := k) (by omega) hi1 (by omega)
              exact (if_pos (bBef_iff.mpr (by rw [e]; omega))).symm
          · replace c60_15 : ¬ (((k : Nat) : Int) = ((nL m n : Nat) : Int)) := c60_15
            refine xk_load rfl (p := 64) rfl rfl ?_
            refine xk_load rfl (p := 65) rfl rfl ?_
            refine xk_getf rfl (p := 68) rfl (xob (ly_m L) (by decide)) (v := (2, ((294 : Nat) : Int))) (xsl2 rfl (ly_mp2 L)) ?_
            refine xk_load rfl (p := 69) rfl rfl ?_
            refine xk_ald rfl (p := 70) rfl (v := (0, ((nL m o : Nat) : Int))) ((xal0 (ly_ms2 L) (show o < 12 by omega)).trans (congrArg (fun z => some (0, z)) ((hM 294 o (by decide)).trans (iLn hI (show o < nN m by omega)).1))) ?_
            have iLn_ := iLn hI (show o < nN m by omega)
            refine xk_icmp rfl (p := 73) rfl (fun c70_17 => ?_) (fun c70_17 => ?_)
            · replace c70_17 : ¬ (((k : Nat) : Int) = ((nL m o : Nat) : Int)) := c70_17
              refine xk_load rfl (p := 95) rfl rfl ?_
              refine xk_getf rfl (p := 98) rfl (xob (ly_m L) (by decide)) (v := (2, ((293 : Nat) : Int))) (xsl2 rfl (ly_mp1 L)) ?_
              refine xk_push rfl (p := 100) rfl ?_
              refine xk_load rfl (p := 101) rfl rfl ?_
              refine xk_bin rfl (p := 102) rfl (z := ((8 * n : Nat) : Int)) (congrArg some (xmul_n (n := 8) (m := n) (by omega))) ?_
              refine xk_load rfl (p := 103) rfl rfl ?_
              refine xk_bin rfl (p := 104) rfl (z := ((8 * n + k : Nat) : Int)) (congrArg some (xadd_n (n := 8 * n) (m := k) (by omega))) ?_
              refine xk_ald rfl (p := 105) rfl (v := (0, m 293 (8 * n + k))) ((xal0 (ly_ms1 L) (show 8 * n + k < 96 by omega)).trans (congrArg (fun z => some (0, z)) (hM 293 (8 * n + k) (by decide)))) ?_
              refine xk_load rfl (p := 106) rfl rfl ?_
              refine xk_getf rfl (p := 109) rfl (xob (ly_m L) (by decide)) (v := (2, ((293 : Nat) : Int))) (xsl2 rfl (ly_mp1 L)) ?_
              refine xk_push rfl (p := 111) rfl ?_
              refine xk_load rfl (p := 112) rfl rfl ?_
              refine xk_bin rfl (p := 113) rfl (z := ((8 * o : Nat) : Int)) (congrArg some (xmul_n (n := 8) (m := o) (by omega))) ?_
              refine xk_load rfl (p := 114) rfl rfl ?_
              refine xk_bin rfl (p := 115) rfl (z := ((8 * o + k : Nat) : Int)) (congrArg some (xadd_n (n := 8 * o) (m := k) (by omega))) ?_
              refine xk_ald rfl (p := 116) rfl (v := (0, m 293 (8 * o + k))) ((xal0 (ly_ms1 L) (show 8 * o + k < 96 by omega)).trans (congrArg (fun z => some (0, z)) (hM 293 (8 * o + k) (by decide)))) ?_
              refine xk_icmp rfl (p := 119) rfl (fun c116_18 => ?_) (fun c116_18 => ?_)
              · replace c116_18 : m 293 (8 * o + k) ≤ m 293 (8 * n + k) := c116_18
                refine xk_push rfl (p := 124) rfl ?_
                refine xk_rete rfl (rfl) ?_
                have e := sDif_eq (m := m) (a := n) (b := o) (k := k) (by omega) hi1 (by omega)
                exact (if_neg (fun h => by have h := bBef_iff.mp h; rw [e] at h; omega)).symm
              · replace c116_18 : ¬ (m 293 (8 * o + k) ≤ m 293 (8 * n + k)) := c116_18
                refine xk_push rfl (p := 120) rfl ?_
                refine xk_goto rfl ?_
                refine xk_rete rfl (rfl) ?_
                have e := sDif_eq (m := m) (a := n) (b := o) (k := k) (by omega) hi1 (by omega)
                exact (if_pos (bBef_iff.mpr (by rw [e]; omega))).symm
            · replace c70_17 : ((k : Nat) : Int) = ((nL m o : Nat) : Int) := Decidable.not_not.mp c70_17
              refine xk_load rfl (p := 74) rfl rfl ?_
              refine xk_getf rfl (p := 77) rfl (xob (ly_m L) (by decide)) (v := (2, ((294 : Nat) : Int))) (xsl2 rfl (ly_mp2 L)) ?_
              refine xk_load rfl (p := 78) rfl rfl ?_
              refine xk_ald rfl (p := 79) rfl (v := (0, ((nL m n : Nat) : Int))) ((xal0 (ly_ms2 L) (show n < 12 by omega)).trans (congrArg (fun z => some (0, z)) ((hM 294 n (by decide)).trans (iLn hI (show n < nN m by omega)).1))) ?_
              have iLn_ := iLn hI (show n < nN m by omega)
              refine xk_load rfl (p := 80) rfl rfl ?_
              refine xk_getf rfl (p := 83) rfl (xob (ly_m L) (by decide)) (v := (2, ((294 : Nat) : Int))) (xsl2 rfl (ly_mp2 L)) ?_
              refine xk_load rfl (p := 84) rfl rfl ?_
              refine xk_ald rfl (p := 85) rfl (v := (0, ((nL m o : Nat) : Int))) ((xal0 (ly_ms2 L) (show o < 12 by omega)).trans (congrArg (fun z => some (0, z)) ((hM 294 o (by decide)).trans (iLn hI (show o < nN m by omega)).1))) ?_
              have iLn_ := iLn hI (show o < nN m by omega)
              refine xk_icmp rfl (p := 88) rfl (fun c85_19 => ?_) (fun c85_19 => ?_)
              · replace c85_19 : ((nL m o : Nat) : Int) ≤ ((nL m n : Nat) : Int) := c85_19
                refine xk_push rfl (p := 93) rfl ?_
                refine xk_rete rfl (rfl) ?_
                have e := sDif_eq (m := m) (a := n) (b := o) (k := k) (by omega) hi1 (by omega)
                exact (if_neg (fun h => by have h := bBef_iff.mp h; rw [e] at h; omega)).symm
              · replace c85_19 : ¬ (((nL m o : Nat) : Int) ≤ ((nL m n : Nat) : Int)) := c85_19
                refine xk_push rfl (p := 89) rfl ?_
                refine xk_goto rfl ?_
                refine xk_rete rfl (rfl) ?_
                have e := sDif_eq (m := m) (a := n) (b := o) (k := k) (by omega) hi1 (by omega)
                exact (if_pos (bBef_iff.mpr (by rw [e]; omega))).symm
        · replace c44_14 : m 293 (8 * n + k) = m 293 (8 * o + k) := Decidable.not_not.mp c44_14
          refine xk_inc1 rfl (p := 50) rfl (n := k) rfl (by omega) (ls' := [(2, ((292 : Nat) : Int)), (0, ((n : Nat) : Int)), (0, ((o : Nat) : Int)), (0, ((k + 1 : Nat) : Int))]) rfl ?_
          refine xk_goto rfl ?_
          exact ih1 (by omega)  (by exact xall_up hi1 (by omega))
  exact lp1 0 (by omega)  (by intro i h; omega)

theorem n_place {d : Nat} {g : xG} {t m : xD} {n : Nat} (L : xLay g) (hM : Mo t m) (hI : Inv m) (hn : n < nN m) : xCall (d + 1) 133 [(2, ((292 : Nat) : Int)), (0, ((n : Nat) : Int))] g t (xQ g t (some (0, ((xcnt (fun q => bBef m q n) (nN m) : Nat) : Int)))) := by
  show xOk (d + 1) 133 0 [(2, ((292 : Nat) : Int)), (0, ((n : Nat) : Int)), (3, 0), (3, 0)] [] g t _
  have iNn_ := iNn hI
  refine xk_push rfl (p := 1) rfl ?_
  refine xk_store rfl (p := 2) rfl (by decide) (Nat.le_of_ble_eq_true rfl) (ls' := [(2, ((292 : Nat) : Int)), (0, ((n : Nat) : Int)), (0, 0), (3, 0)]) rfl ?_
  refine xk_push rfl (p := 3) rfl ?_
  refine xk_store rfl (p := 4) rfl (by decide) (Nat.le_of_ble_eq_true rfl) (ls' := [(2, ((292 : Nat) : Int)), (0, ((n : Nat) : Int)), (0, 0), (0, 0)]) rfl ?_
  have lp1 : ∀ k : Nat, k ≤ nN m → ∀ (z : Nat), (z = xcnt (fun q => bBef m q n) k) → (z ≤ k) → xOk (d + 1) 133 4 [(2, ((292 : Nat) : Int)), (0, ((n : Nat) : Int)), (0, ((z : Nat) : Int)), (0, ((k : Nat) : Int))] [] g t (xQ g t (some (0, ((xcnt (fun q => bBef m q n) (nN m) : Nat) : Int)))) := by
    refine xk_up (nN m) (fun k hkk ih1 z hi1 hi2 => ?_)
    refine xk_load rfl (p := 5) rfl rfl ?_
    refine xk_load rfl (p := 6) rfl rfl ?_
    refine xk_getf rfl (p := 9) rfl (xob (ly_m L) (by decide)) (v := (0, ((nN m : Nat) : Int))) (xsl0 rfl ((hM 292 0 (by decide)).trans (iNn hI).1)) ?_
    have iNn_ := iNn hI
    refine xk_icmp rfl (p := 12) rfl (fun c9_2 => ?_) (fun c9_2 => ?_)
    · replace c9_2 : ((nN m : Nat) : Int) ≤ ((k : Nat) : Int) := c9_2
      refine xk_load rfl (p := 31) rfl rfl ?_
      refine xk_rete rfl (rfl) ?_
      rw [hi1, show k = nN m by omega]
    · replace c9_2 : ¬ (((nN m : Nat) : Int) ≤ ((k : Nat) : Int)) := c9_2
      refine xk_load rfl (p := 13) rfl rfl ?_
      refine xk_load rfl (p := 14) rfl rfl ?_
      refine xk_load rfl (p := 15) rfl rfl ?_
      refine xk_callp rfl (p := 18) rfl (by decide) rfl (Nat.le_of_ble_eq_true rfl) (Nat.le_of_ble_eq_true rfl) (xrv (ly_m L) (by decide)) (as := [(2, ((292 : Nat) : Int)), (0, ((k : Nat) : Int)), (0, ((n : Nat) : Int))]) (r := []) rfl (v := (0, (if bBef m k n = true then (1 : Int) else 0))) (n_isBefore L hM hI (show k < nN m by omega) (show n < nN m by omega)) ?_
      refine xk_if rfl (p := 21) rfl (fun c18_3 => ?_) (fun c18_3 => ?_)
      · replace c18_3 : ¬ (bBef m k n = true) := xb_e0 c18_3
        refine xk_inc1 rfl (p := 27) rfl (n := k) rfl (by omega) (ls' := [(2, ((292 : Nat) : Int)), (0, ((n : Nat) : Int)), (0, ((z : Nat) : Int)), (0, ((k + 1 : Nat) : Int))]) rfl ?_
        refine xk_goto rfl ?_
        exact ih1 (by omega) z (by first | exact xcnt_in hi1 (by assumption) | exact xcnt_out hi1 (by assumption)) (by omega)
      · replace c18_3 : bBef m k n = true := xb_n0 c18_3
        refine xk_inc1 rfl (p := 24) rfl (n := z) rfl (by omega) (ls' := [(2, ((292 : Nat) : Int)), (0, ((n : Nat) : Int)), (0, ((z + 1 : Nat) : Int)), (0, ((k : Nat) : Int))]) rfl ?_
        refine xk_inc1 rfl (p := 27) rfl (n := k) rfl (by omega) (ls' := [(2, ((292 : Nat) : Int)), (0, ((n : Nat) : Int)), (0, ((z + 1 : Nat) : Int)), (0, ((k + 1 : Nat) : Int))]) rfl ?_
        refine xk_goto rfl ?_
        exact ih1 (by omega) (z + 1) (by first | exact xcnt_in hi1 (by assumption) | exact xcnt_out hi1 (by assumption)) (by omega)
  exact lp1 0 (by omega) 0 (by rfl) (by omega)

/-- another deal locks it -/
def sLock (m : xD) (x b : Int) : Int := xiy 4 (xfst (fun d => decide (¬ (d : Int) = b ∧ 0 < m 300 d ∧ ¬ m 302 d = 0 ∧ ¬ sRow m d x = -1)) 4) (-5)
def bCom (m : xD) (d : Int) (x : Int) : Bool := xexb (fun o => decide (¬ (o : Int) = d ∧ ¬ m 300 o = 0 ∧ ¬ m 302 o = 0 ∧ ¬ sRow m o x = -1 ∧ ¬ m 303 (12 * o + 8 + (sRow m o x).toNat) = 0)) 4
theorem n_lockedBy {d : Nat} {g : xG} {t m : xD} {x b : Int} (L : xLay g) (hM : Mo t m) (hI : Inv m) : xCall (d + 2) 134 [(2, ((292 : Nat) : Int)), (0, x), (0, b)] g t (xQ g t (some (0, sLock m x b))) := by
  show xOk (d + 2) 134 0 [(2, ((292 : Nat) : Int)), (0, x), (0, b), (3, 0)] [] g t _
  refine xk_push rfl (p := 1) rfl ?_
  refine xk_store rfl (p := 2) rfl (by decide) (Nat.le_of_ble_eq_true rfl) (ls' := [(2, ((292 : Nat) : Int)), (0, x), (0, b), (0, 0)]) rfl ?_
  have lp1 : ∀ k : Nat, k ≤ 4 → (∀ i : Nat, i < k → ¬ (¬ (i : Int) = b ∧ 0 < m 300 i ∧ ¬ m 302 i = 0 ∧ ¬ sRow m i x = -1)) → xOk (d + 2) 134 2 [(2, ((292 : Nat) : Int)), (0, x), (0, b), (0, ((k : Nat) : Int))] [] g t (xQ g t (some (0, sLock m x b))) := by
    refine xk_up 4 (fun k hkk ih1  hi1 => ?_)
    refine xk_load rfl (p := 3) rfl rfl ?_
    refine xk_push rfl (p := 4) rfl ?_
    refine xk_icmp rfl (p := 7) rfl (fun c4_2 => ?_) (fun c4_2 => ?_)
    · replace c4_2 : 4 ≤ ((k : Nat) : Int) := c4_2
      refine xk_push rfl (p := 50) rfl ?_
      refine xk_rete rfl (rfl) ?_
      exact xiyf0 (by omega) hi1
    · replace c4_2 : ¬ (4 ≤ ((k : Nat) : Int)) := c4_2
      refine xk_load rfl (p := 8) rfl rfl ?_
      refine xk_load rfl (p := 9) rfl rfl ?_
      refine xk_icmp rfl (p := 12) rfl (fun c9_3 => ?_) (fun c9_3 => ?_)
      · replace c9_3 : ((k : Nat) : Int) = b := c9_3
        refine xk_inc1 rfl (p := 45) rfl (n := k) rfl (by omega) (ls' := [(2, ((292 : Nat) : Int)), (0, x), (0, b), (0, ((k + 1 : Nat) : Int))]) rfl ?_
        refine xk_goto rfl ?_
        exact ih1 (by omega)  (by exact xall_up hi1 (by omega))
      · replace c9_3 : ¬ (((k : Nat) : Int) = b) := c9_3
        refine xk_load rfl (p := 13) rfl rfl ?_
        refine xk_getf rfl (p := 16) rfl (xob (ly_m L) (by decide)) (v := (2, ((300 : Nat) : Int))) (xsl2 rfl (ly_mp9 L)) ?_
        refine xk_load rfl (p := 17) rfl rfl ?_
        refine xk_ald rfl (p := 18) rfl (v := (0, m 300 k)) ((xal0 (ly_ms9 L) (show k < 4 by omega)).trans (congrArg (fun z => some (0, z)) (hM 300 k (by decide)))) ?_
        have iD_ := iD hI (show k < 4 by omega)
        refine xk_if rfl (p := 21) rfl (fun c18_4 => ?_) (fun c18_4 => ?_)
        · replace c18_4 : m 300 k ≤ 0 := c18_4
          refine xk_inc1 rfl (p := 45) rfl (n := k) rfl (by omega) (ls' := [(2, ((292 : Nat) : Int)), (0, x), (0, b), (0, ((k + 1 : Nat) : Int))]) rfl ?_
          refine xk_goto rfl ?_
          exact ih1 (by omega)  (by exact xall_up hi1 (by omega))
        · replace c18_4 : ¬ (m 300 k ≤ 0) := c18_4
          refine xk_load rfl (p := 22) rfl rfl ?_
          refine xk_getf rfl (p := 25) rfl (xob (ly_m L) (by decide)) (v := (2, ((302 : Nat) : Int))) (xsl2 rfl (ly_mp11 L)) ?_
          refine xk_load rfl (p := 26) rfl rfl ?_
          refine xk_ald rfl (p := 27) rfl (v := (0, m 302 k)) ((xal0 (ly_ms11 L) (show k < 4 by omega)).trans (congrArg (fun z => some (0, z)) (hM 302 k (by decide)))) ?_
          have iD_ := iD hI (show k < 4 by omega)
          refine xk_if rfl (p := 30) rfl (fun c27_5 => ?_) (fun c27_5 => ?_)
          · replace c27_5 : m 302 k = 0 := c27_5
            refine xk_inc1 rfl (p := 45) rfl (n := k) rfl (by omega) (ls' := [(2, ((292 : Nat) : Int)), (0, x), (0, b), (0, ((k + 1 : Nat) : Int))]) rfl ?_
            refine xk_goto rfl ?_
            exact ih1 (by omega)  (by exact xall_up hi1 (by omega))
          · replace c27_5 : ¬ (m 302 k = 0) := c27_5
            refine xk_load rfl (p := 31) rfl rfl ?_
            refine xk_load rfl (p := 32) rfl rfl ?_
            refine xk_load rfl (p := 33) rfl rfl ?_
            refine xk_callp rfl (p := 36) rfl (by decide) rfl (Nat.le_of_ble_eq_true rfl) (Nat.le_of_ble_eq_true rfl) (xrv (ly_m L) (by decide)) (as := [(2, ((292 : Nat) : Int)), (0, ((k : Nat) : Int)), (0, x)]) (r := []) rfl (v := (0, sRow m k x)) (n_rowFor L hM hI (show k < 4 by omega)) ?_
            have sRow_ := sRow_rng (m := m) (d := k) (x := x)
            have iRn_ := iRn hI (show k < 4 by omega)
            refine xk_push rfl (p := 37) rfl ?_
            refine xk_icmp rfl (p := 40) rfl (fun c37_6 => ?_) (fun c37_6 => ?_)
            · replace c37_6 : sRow m k x = (-1) := c37_6
              refine xk_inc1 rfl (p := 45) rfl (n := k) rfl (by omega) (ls' := [(2, ((292 : Nat) : Int)), (0, x), (0, b), (0, ((k + 1 : Nat) : Int))]) rfl ?_
              refine xk_goto rfl ?_
              exact ih1 (by omega)  (by exact xall_up hi1 (by omega))
            · replace c37_6 : ¬ (sRow m k x = (-1)) := c37_6
              refine xk_load rfl (p := 41) rfl rfl ?_
              refine xk_rete rfl (rfl) ?_
              exact xiyf1 (by omega) hi1 (by omega)
  exact lp1 0 (by omega)  (by intro i h; omega)

theorem n_isComing {d : Nat} {g : xG} {t m : xD} {n : Nat} {x : Int} (L : xLay g) (hM : Mo t m) (hI : Inv m) (hn : n < 4) : xCall (d + 2) 145 [(2, ((292 : Nat) : Int)), (0, ((n : Nat) : Int)), (0, x)] g t (xQ g t (some (0, if bCom m ((n : Nat) : Int) x = true then (1 : Int) else 0))) := by
  show xOk (d + 2) 145 0 [(2, ((292 : Nat) : Int)), (0, ((n : Nat) : Int)), (0, x), (3, 0), (3, 0)] [] g t _
  refine xk_push rfl (p := 1) rfl ?_
  refine xk_store rfl (p := 2) rfl (by decide) (Nat.le_of_ble_eq_true rfl) (ls' := [(2, ((292 : Nat) : Int)), (0, ((n : Nat) : Int)), (0, x), (0, 0), (3, 0)]) rfl ?_
  have lp1 : ∀ k : Nat, k ≤ 4 → ∀ (w4 : xV), (∀ i : Nat, i < k → ¬ (¬ (i : Int) = ((n : Nat) : Int) ∧ ¬ m 300 i = 0 ∧ ¬ m 302 i = 0 ∧ ¬ sRow m i x = -1 ∧ ¬ m 303 (12 * i + 8 + (sRow m i x).toNat) = 0)) → xOk (d + 2) 145 2 [(2, ((292 : Nat) : Int)), (0, ((n : Nat) : Int)), (0, x), (0, ((k : Nat) : Int)), w4] [] g t (xQ g t (some (0, if bCom m ((n : Nat) : Int) x = true then (1 : Int) else 0))) := by
    refine xk_up 4 (fun k hkk ih1  w4 hi1 => ?_)
    refine xk_load rfl (p := 3) rfl rfl ?_
    refine xk_push rfl (p := 4) rfl ?_
    refine xk_icmp rfl (p := 7) rfl (fun c4_2 => ?_) (fun c4_2 => ?_)
    · replace c4_2 : 4 ≤ ((k : Nat) : Int) := c4_2
      refine xk_push rfl (p := 66) rfl ?_
      refine xk_rete rfl (rfl) ?_
      exact (if_neg (xexf0 (by omega) hi1)).symm
    · replace c4_2 : ¬ (4 ≤ ((k : Nat) : Int)) := c4_2
      refine xk_load rfl (p := 8) rfl rfl ?_
      refine xk_load rfl (p := 9) rfl rfl ?_
      refine xk_icmp rfl (p := 12) rfl (fun c9_3 => ?_) (fun c9_3 => ?_)
      · replace c9_3 : ((k : Nat) : Int) = ((n : Nat) : Int) := c9_3
        refine xk_inc1 rfl (p := 62) rfl (n := k) rfl (by omega) (ls' := [(2, ((292 : Nat) : Int)), (0, ((n : Nat) : Int)), (0, x), (0, ((k + 1 : Nat) : Int)), w4]) rfl ?_
        refine xk_goto rfl ?_
        exact ih1 (by omega) w4 (by exact xall_up hi1 (by omega))
      · replace c9_3 : ¬ (((k : Nat) : Int) = ((n : Nat) : Int)) := c9_3
        refine xk_load rfl (p := 13) rfl rfl ?_
        refine xk_getf rfl (p := 16) rfl (xob (ly_m L) (by decide)) (v := (2, ((300 : Nat) : Int))) (xsl2 rfl (ly_mp9 L)) ?_
        refine xk_load rfl (p := 17) rfl rfl ?_
        refine xk_ald rfl (p := 18) rfl (v := (0, m 300 k)) ((xal0 (ly_ms9 L) (show k < 4 by omega)).trans (congrArg (fun z => some (0, z)) (hM 300 k (by decide)))) ?_
        have iD_ := iD hI (show k < 4 by omega)
        refine xk_if rfl (p := 21) rfl (fun c18_4 => ?_) (fun c18_4 => ?_)
        · replace c18_4 : m 300 k = 0 := c18_4
          refine xk_inc1 rfl (p := 62) rfl (n := k) rfl (by omega) (ls' := [(2, ((292 : Nat) : Int)), (0, ((n : Nat) : Int)), (0, x), (0, ((k + 1 : Nat) : Int)), w4]) rfl ?_
          refine xk_goto rfl ?_
          exact ih1 (by omega) w4 (by exact xall_up hi1 (by omega))
        · replace c18_4 : ¬ (m 300 k = 0) := c18_4
          refine xk_load rfl (p := 22) rfl rfl ?_
          refine xk_getf rfl (p := 25) rfl (xob (ly_m L) (by decide)) (v := (2, ((302 : Nat) : Int))) (xsl2 rfl (ly_mp11 L)) ?_
          refine xk_load rfl (p := 26) rfl rfl ?_
          refine xk_ald rfl (p := 27) rfl (v := (0, m 302 k)) ((xal0 (ly_ms11 L) (show k < 4 by omega)).trans (congrArg (fun z => some (0, z)) (hM 302 k (by decide)))) ?_
          have iD_ := iD hI (show k < 4 by omega)
          refine xk_if rfl (p := 30) rfl (fun c27_5 => ?_) (fun c27_5 => ?_)
          · replace c27_5 : ¬ (m 302 k = 0) := c27_5
            refine xk_load rfl (p := 34) rfl rfl ?_
            refine xk_load rfl (p := 35) rfl rfl ?_
            refine xk_load rfl (p := 36) rfl rfl ?_
            refine xk_callp rfl (p := 39) rfl (by decide) rfl (Nat.le_of_ble_eq_true rfl) (Nat.le_of_ble_eq_true rfl) (xrv (ly_m L) (by decide)) (as := [(2, ((292 : Nat) : Int)), (0, ((k : Nat) : Int)), (0, x)]) (r := []) rfl (v := (0, sRow m k x)) (n_rowFor L hM hI (show k < 4 by omega)) ?_
            have sRow_ := sRow_rng (m := m) (d := k) (x := x)
            have iRn_ := iRn hI (show k < 4 by omega)
            refine xk_store rfl (p := 41) rfl (by decide) (Nat.le_of_ble_eq_true rfl) (ls' := [(2, ((292 : Nat) : Int)), (0, ((n : Nat) : Int)), (0, x), (0, ((k : Nat) : Int)), (0, sRow m k x)]) rfl ?_
            refine xk_load rfl (p := 43) rfl rfl ?_
            refine xk_push rfl (p := 44) rfl ?_
            refine xk_icmp rfl (p := 47) rfl (fun c44_6 => ?_) (fun c44_6 => ?_)
            · replace c44_6 : sRow m k x = (-1) := c44_6
              refine xk_inc1 rfl (p := 62) rfl (n := k) rfl (by omega) (ls' := [(2, ((292 : Nat) : Int)), (0, ((n : Nat) : Int)), (0, x), (0, ((k + 1 : Nat) : Int)), (0, sRow m k x)]) rfl ?_
              refine xk_goto rfl ?_
              exact ih1 (by omega) (0, sRow m k x) (by exact xall_up hi1 (by omega))
            · replace c44_6 : ¬ (sRow m k x = (-1)) := c44_6
              refine xk_load rfl (p := 48) rfl rfl ?_
              refine xk_load rfl (p := 49) rfl rfl ?_
              refine xk_load rfl (p := 51) rfl rfl ?_
              refine xk_stk (show _ = (0, (((sRow m k x).toNat : Nat) : Int)) :: [(0, ((k : Nat) : Int)), (2, ((292 : Nat) : Int))] from congrArg (fun z => ((0, z) : xV) :: [(0, ((k : Nat) : Int)), (2, ((292 : Nat) : Int))]) (Int.toNat_of_nonneg (show 0 ≤ sRow m k x by omega)).symm) ?_
              refine xk_callp rfl (p := 54) rfl (by decide) rfl (Nat.le_of_ble_eq_true rfl) (Nat.le_of_ble_eq_true rfl) (xrv (ly_m L) (by decide)) (as := [(2, ((292 : Nat) : Int)), (0, ((k : Nat) : Int)), (0, (((sRow m k x).toNat : Nat) : Int))]) (r := []) rfl (v := (0, m 303 (12 * k + 8 + ((sRow m k x).toNat)))) (n_fresh L hM hI (show k < 4 by omega) (show (sRow m k x).toNat < 4 by omega)) ?_
              refine xk_if rfl (p := 57) rfl (fun c54_7 => ?_) (fun c54_7 => ?_)
              · replace c54_7 : m 303 (12 * k + 8 + ((sRow m k x).toNat)) = 0 := c54_7
                refine xk_inc1 rfl (p := 62) rfl (n := k) rfl (by omega) (ls' := [(2, ((292 : Nat) : Int)), (0, ((n : Nat) : Int)), (0, x), (0, ((k + 1 : Nat) : Int)), (0, sRow m k x)]) rfl ?_
                refine xk_goto rfl ?_
                exact ih1 (by omega) (0, sRow m k x) (by exact xall_up hi1 (by omega))
              · replace c54_7 : ¬ (m 303 (12 * k + 8 + ((sRow m k x).toNat)) = 0) := c54_7
                refine xk_push rfl (p := 58) rfl ?_
                refine xk_rete rfl (rfl) ?_
                exact (if_pos (xexf1 (by omega) hi1 (by omega))).symm
          · replace c27_5 : m 302 k = 0 := Decidable.not_not.mp c27_5
            refine xk_goto rfl ?_
            refine xk_inc1 rfl (p := 62) rfl (n := k) rfl (by omega) (ls' := [(2, ((292 : Nat) : Int)), (0, ((n : Nat) : Int)), (0, x), (0, ((k + 1 : Nat) : Int)), w4]) rfl ?_
            refine xk_goto rfl ?_
            exact ih1 (by omega) w4 (by exact xall_up hi1 (by omega))
  exact lp1 0 (by omega) (3, 0) (by intro i h; omega)

def sAsk (m : xD) (n r : Nat) (x : Int) : Int :=
  if m 303 (12 * n + 4 + r) = (-1) then (if (m 300 n - 1) = 0 then 1 else (if (m 300 n - 1) = 1 then 1 else (if (m 300 n - 1) = 2 then (if m 303 (12 * n + 8 + r) = 0 then 1 else (if m 303 (12 * n + 8 + r) ≤ x then 0 else 1)) else (if m 303 (12 * n + 8 + r) = 0 then 0 else 1)))) else (if x = m 303 (12 * n + 4 + r) then (if (m 300 n - 1) = 0 then 1 else (if (m 300 n - 1) = 1 then 1 else (if (m 300 n - 1) = 2 then (if m 303 (12 * n + 8 + r) = 0 then 1 else (if m 303 (12 * n + 8 + r) ≤ x then 0 else 1)) else (if m 303 (12 * n + 8 + r) = 0 then 0 else 1)))) else (if (m 300 n - 1) = 0 then 0 else (if (m 300 n - 1) = 1 then 1 else (if (m 300 n - 1) = 2 then 0 else (if m 303 (12 * n + 8 + r) = 0 then 0 else 1)))))
theorem n_isAsked {d : Nat} {g : xG} {t m : xD} {n r : Nat} {x : Int} (L : xLay g) (hM : Mo t m) (hI : Inv m) (hn : n < 4) (hr : r < 4) : xCall (d + 1) 144 [(2, ((292 : Nat) : Int)), (0, ((n : Nat) : Int)), (0, ((r : Nat) : Int)), (0, x)] g t (xQ g t (some (0, sAsk m  n r  x ))) := by
  show xOk (d + 1) 144 0 [(2, ((292 : Nat) : Int)), (0, ((n : Nat) : Int)), (0, ((r : Nat) : Int)), (0, x), (3, 0)] [] g t _
  refine xk_load rfl (p := 1) rfl rfl ?_
  refine xk_load rfl (p := 2) rfl rfl ?_
  refine xk_load rfl (p := 3) rfl rfl ?_
  refine xk_callp rfl (p := 6) rfl (by decide) rfl (Nat.le_of_ble_eq_true rfl) (Nat.le_of_ble_eq_true rfl) (xrv (ly_m L) (by decide)) (as := [(2, ((292 : Nat) : Int)), (0, ((n : Nat) : Int)), (0, ((r : Nat) : Int))]) (r := []) rfl (v := (0, m 303 (12 * n + 4 + r))) (n_old L hM hI (show n < 4 by omega) (show r < 4 by omega)) ?_
  refine xk_push rfl (p := 7) rfl ?_
  refine xk_icmp rfl (p := 10) rfl (fun c7_1 => ?_) (fun c7_1 => ?_)
  · replace c7_1 : m 303 (12 * n + 4 + r) = (-1) := c7_1
    refine xk_push rfl (p := 21) rfl ?_
    refine xk_goto rfl ?_
    refine xk_store rfl (p := 27) rfl (by decide) (Nat.le_of_ble_eq_true rfl) (ls' := [(2, ((292 : Nat) : Int)), (0, ((n : Nat) : Int)), (0, ((r : Nat) : Int)), (0, x), (0, 1)]) rfl ?_
    refine xk_load rfl (p := 28) rfl rfl ?_
    refine xk_getf rfl (p := 31) rfl (xob (ly_m L) (by decide)) (v := (2, ((300 : Nat) : Int))) (xsl2 rfl (ly_mp9 L)) ?_
    refine xk_load rfl (p := 32) rfl rfl ?_
    refine xk_ald rfl (p := 33) rfl (v := (0, m 300 n)) ((xal0 (ly_ms9 L) (show n < 4 by omega)).trans (congrArg (fun z => some (0, z)) (hM 300 n (by decide)))) ?_
    have iD_ := iD hI (show n < 4 by omega)
    refine xk_push rfl (p := 34) rfl ?_
    refine xk_bin rfl (p := 35) rfl (z := (m 300 n - 1)) (congrArg some (xsub_r (by omega) (by omega))) ?_
    by_cases c35_2 : (m 300 n - 1) = 0
    · refine xk_switch rfl (w := 60) (by rw [c35_2]; rfl) ?_
      refine xk_load rfl (p := 62) rfl rfl ?_
      refine xk_rete rfl (rfl) ?_
      exact ((if_pos c7_1).trans ((if_pos c35_2))).symm
    by_cases c35_3 : (m 300 n - 1) = 1
    · refine xk_switch rfl (w := 63) (by rw [c35_3]; rfl) ?_
      refine xk_push rfl (p := 64) rfl ?_
      refine xk_rete rfl (rfl) ?_
      exact ((if_pos c7_1).trans ((if_neg c35_2).trans ((if_pos c35_3)))).symm
    by_cases c35_4 : (m 300 n - 1) = 2
    · refine xk_switch rfl (w := 65) (by rw [c35_4]; rfl) ?_
      refine xk_load rfl (p := 67) rfl rfl ?_
      refine xk_if rfl (p := 70) rfl (fun c67_5 => absurd c67_5 (show ¬ ((1 : Int) = (0 : Int)) by decide)) (fun c67_5 => ?_)
      refine xk_load rfl (p := 71) rfl rfl ?_
      refine xk_load rfl (p := 72) rfl rfl ?_
      refine xk_load rfl (p := 73) rfl rfl ?_
      refine xk_callp rfl (p := 76) rfl (by decide) rfl (Nat.le_of_ble_eq_true rfl) (Nat.le_of_ble_eq_true rfl) (xrv (ly_m L) (by decide)) (as := [(2, ((292 : Nat) : Int)), (0, ((n : Nat) : Int)), (0, ((r : Nat) : Int))]) (r := []) rfl (v := (0, m 303 (12 * n + 8 + r))) (n_fresh L hM hI (show n < 4 by omega) (show r < 4 by omega)) ?_
      refine xk_if rfl (p := 79) rfl (fun c76_6 => ?_) (fun c76_6 => ?_)
      · replace c76_6 : m 303 (12 * n + 8 + r) = 0 := c76_6
        refine xk_push rfl (p := 90) rfl ?_
        refine xk_goto rfl ?_
        refine xk_rete rfl (rfl) ?_
        exact ((if_pos c7_1).trans ((if_neg c35_2).trans ((if_neg c35_3).trans ((if_pos c35_4).trans ((if_pos c76_6)))))).symm
      · replace c76_6 : ¬ (m 303 (12 * n + 8 + r) = 0) := c76_6
        refine xk_load rfl (p := 80) rfl rfl ?_
        refine xk_load rfl (p := 81) rfl rfl ?_
        refine xk_load rfl (p := 82) rfl rfl ?_
        refine xk_callp rfl (p := 85) rfl (by decide) rfl (Nat.le_of_ble_eq_true rfl) (Nat.le_of_ble_eq_true rfl) (xrv (ly_m L) (by decide)) (as := [(2, ((292 : Nat) : Int)), (0, ((n : Nat) : Int)), (0, ((r : Nat) : Int))]) (r := []) rfl (v := (0, m 303 (12 * n + 8 + r))) (n_fresh L hM hI (show n < 4 by omega) (show r < 4 by omega)) ?_
        refine xk_load rfl (p := 86) rfl rfl ?_
        refine xk_icmp rfl (p := 89) rfl (fun c86_7 => ?_) (fun c86_7 => ?_)
        · replace c86_7 : m 303 (12 * n + 8 + r) ≤ x := c86_7
          refine xk_push rfl (p := 94) rfl ?_
          refine xk_rete rfl (rfl) ?_
          exact ((if_pos c7_1).trans ((if_neg c35_2).trans ((if_neg c35_3).trans ((if_pos c35_4).trans ((if_neg c76_6).trans ((if_pos c86_7))))))).symm
        · replace c86_7 : ¬ (m 303 (12 * n + 8 + r) ≤ x) := c86_7
          refine xk_push rfl (p := 90) rfl ?_
          refine xk_goto rfl ?_
          refine xk_rete rfl (rfl) ?_
          exact ((if_pos c7_1).trans ((if_neg c35_2).trans ((if_neg c35_3).trans ((if_pos c35_4).trans ((if_neg c76_6).trans ((if_neg c86_7))))))).symm
    refine xk_switch rfl (w := 95) (if_pos (by first | omega | (simp only [List.length]; omega))) ?_
    refine xk_load rfl (p := 96) rfl rfl ?_
    refine xk_load rfl (p := 97) rfl rfl ?_
    refine xk_load rfl (p := 98) rfl rfl ?_
    refine xk_callp rfl (p := 101) rfl (by decide) rfl (Nat.le_of_ble_eq_true rfl) (Nat.le_of_ble_eq_true rfl) (xrv (ly_m L) (by decide)) (as := [(2, ((292 : Nat) : Int)), (0, ((n : Nat) : Int)), (0, ((r : Nat) : Int))]) (r := []) rfl (v := (0, m 303 (12 * n + 8 + r))) (n_fresh L hM hI (show n < 4 by omega) (show r < 4 by omega)) ?_
    refine xk_if rfl (p := 104) rfl (fun c101_8 => ?_) (fun c101_8 => ?_)
    · replace c101_8 : m 303 (12 * n + 8 + r) = 0 := c101_8
      refine xk_push rfl (p := 109) rfl ?_
      refine xk_rete rfl (rfl) ?_
      exact ((if_pos c7_1).trans ((if_neg c35_2).trans ((if_neg c35_3).trans ((if_neg c35_4).trans ((if_pos c101_8)))))).symm
    · replace c101_8 : ¬ (m 303 (12 * n + 8 + r) = 0) := c101_8
      refine xk_push rfl (p := 105) rfl ?_
      refine xk_goto rfl ?_
      refine xk_rete rfl (rfl) ?_
      exact ((if_pos c7_1).trans ((if_neg c35_2).trans ((if_neg c35_3).trans ((if_neg c35_4).trans ((if_neg c101_8)))))).symm
  · replace c7_1 : ¬ (m 303 (12 * n + 4 + r) = (-1)) := c7_1
    refine xk_load rfl (p := 11) rfl rfl ?_
    refine xk_load rfl (p := 12) rfl rfl ?_
    refine xk_load rfl (p := 13) rfl rfl ?_
    refine xk_load rfl (p := 14) rfl rfl ?_
    refine xk_callp rfl (p := 17) rfl (by decide) rfl (Nat.le_of_ble_eq_true rfl) (Nat.le_of_ble_eq_true rfl) (xrv (ly_m L) (by decide)) (as := [(2, ((292 : Nat) : Int)), (0, ((n : Nat) : Int)), (0, ((r : Nat) : Int))]) (r := [(0, x)]) rfl (v := (0, m 303 (12 * n + 4 + r))) (n_old L hM hI (show n < 4 by omega) (show r < 4 by omega)) ?_
    refine xk_icmp rfl (p := 20) rfl (fun c17_9 => ?_) (fun c17_9 => ?_)
    · replace c17_9 : ¬ (x = m 303 (12 * n + 4 + r)) := c17_9
      refine xk_push rfl (p := 25) rfl ?_
      refine xk_store rfl (p := 27) rfl (by decide) (Nat.le_of_ble_eq_true rfl) (ls' := [(2, ((292 : Nat) : Int)), (0, ((n : Nat) : Int)), (0, ((r : Nat) : Int)), (0, x), (0, 0)]) rfl ?_
      refine xk_load rfl (p := 28) rfl rfl ?_
      refine xk_getf rfl (p := 31) rfl (xob (ly_m L) (by decide)) (v := (2, ((300 : Nat) : Int))) (xsl2 rfl (ly_mp9 L)) ?_
      refine xk_load rfl (p := 32) rfl rfl ?_
      refine xk_ald rfl (p := 33) rfl (v := (0, m 300 n)) ((xal0 (ly_ms9 L) (show n < 4 by omega)).trans (congrArg (fun z => some (0, z)) (hM 300 n (by decide)))) ?_
      have iD_ := iD hI (show n < 4 by omega)
      refine xk_push rfl (p := 34) rfl ?_
      refine xk_bin rfl (p := 35) rfl (z := (m 300 n - 1)) (congrArg some (xsub_r (by omega) (by omega))) ?_
      by_cases c35_10 : (m 300 n - 1) = 0
      · refine xk_switch rfl (w := 60) (by rw [c35_10]; rfl) ?_
        refine xk_load rfl (p := 62) rfl rfl ?_
        refine xk_rete rfl (rfl) ?_
        exact ((if_neg c7_1).trans ((if_neg c17_9).trans ((if_pos c35_10)))).symm
      by_cases c35_11 : (m 300 n - 1) = 1
      · refine xk_switch rfl (w := 63) (by rw [c35_11]; rfl) ?_
        refine xk_push rfl (p := 64) rfl ?_
        refine xk_rete rfl (rfl) ?_
        exact ((if_neg c7_1).trans ((if_neg c17_9).trans ((if_neg c35_10).trans ((if_pos c35_11))))).symm
      by_cases c35_12 : (m 300 n - 1) = 2
      · refine xk_switch rfl (w := 65) (by rw [c35_12]; rfl) ?_
        refine xk_load rfl (p := 67) rfl rfl ?_
        refine xk_if rfl (p := 70) rfl (fun c67_13 => ?_) (fun c67_13 => absurd (show (0 : Int) = (0 : Int) by decide) c67_13)
        refine xk_push rfl (p := 94) rfl ?_
        refine xk_rete rfl (rfl) ?_
        exact ((if_neg c7_1).trans ((if_neg c17_9).trans ((if_neg c35_10).trans ((if_neg c35_11).trans ((if_pos c35_12)))))).symm
      refine xk_switch rfl (w := 95) (if_pos (by first | omega | (simp only [List.length]; omega))) ?_
      refine xk_load rfl (p := 96) rfl rfl ?_
      refine xk_load rfl (p := 97) rfl rfl ?_
      refine xk_load rfl (p := 98) rfl rfl ?_
      refine xk_callp rfl (p := 101) rfl (by decide) rfl (Nat.le_of_ble_eq_true rfl) (Nat.le_of_ble_eq_true rfl) (xrv (ly_m L) (by decide)) (as := [(2, ((292 : Nat) : Int)), (0, ((n : Nat) : Int)), (0, ((r : Nat) : Int))]) (r := []) rfl (v := (0, m 303 (12 * n + 8 + r))) (n_fresh L hM hI (show n < 4 by omega) (show r < 4 by omega)) ?_
      refine xk_if rfl (p := 104) rfl (fun c101_14 => ?_) (fun c101_14 => ?_)
      · replace c101_14 : m 303 (12 * n + 8 + r) = 0 := c101_14
        refine xk_push rfl (p := 109) rfl ?_
        refine xk_rete rfl (rfl) ?_
        exact ((if_neg c7_1).trans ((if_neg c17_9).trans ((if_neg c35_10).trans ((if_neg c35_11).trans ((if_neg c35_12).trans ((if_pos c101_14))))))).symm
      · replace c101_14 : ¬ (m 303 (12 * n + 8 + r) = 0) := c101_14
        refine xk_push rfl (p := 105) rfl ?_
        refine xk_goto rfl ?_
        refine xk_rete rfl (rfl) ?_
        exact ((if_neg c7_1).trans ((if_neg c17_9).trans ((if_neg c35_10).trans ((if_neg c35_11).trans ((if_neg c35_12).trans ((if_neg c101_14))))))).symm
    · replace c17_9 : x = m 303 (12 * n + 4 + r) := Decidable.not_not.mp c17_9
      refine xk_push rfl (p := 21) rfl ?_
      refine xk_goto rfl ?_
      refine xk_store rfl (p := 27) rfl (by decide) (Nat.le_of_ble_eq_true rfl) (ls' := [(2, ((292 : Nat) : Int)), (0, ((n : Nat) : Int)), (0, ((r : Nat) : Int)), (0, x), (0, 1)]) rfl ?_
      refine xk_load rfl (p := 28) rfl rfl ?_
      refine xk_getf rfl (p := 31) rfl (xob (ly_m L) (by decide)) (v := (2, ((300 : Nat) : Int))) (xsl2 rfl (ly_mp9 L)) ?_
      refine xk_load rfl (p := 32) rfl rfl ?_
      refine xk_ald rfl (p := 33) rfl (v := (0, m 300 n)) ((xal0 (ly_ms9 L) (show n < 4 by omega)).trans (congrArg (fun z => some (0, z)) (hM 300 n (by decide)))) ?_
      have iD_ := iD hI (show n < 4 by omega)
      refine xk_push rfl (p := 34) rfl ?_
      refine xk_bin rfl (p := 35) rfl (z := (m 300 n - 1)) (congrArg some (xsub_r (by omega) (by omega))) ?_
      by_cases c35_15 : (m 300 n - 1) = 0
      · refine xk_switch rfl (w := 60) (by rw [c35_15]; rfl) ?_
        refine xk_load rfl (p := 62) rfl rfl ?_
        refine xk_rete rfl (rfl) ?_
        exact ((if_neg c7_1).trans ((if_pos c17_9).trans ((if_pos c35_15)))).symm
      by_cases c35_16 : (m 300 n - 1) = 1
      · refine xk_switch rfl (w := 63) (by rw [c35_16]; rfl) ?_
        refine xk_push rfl (p := 64) rfl ?_
        refine xk_rete rfl (rfl) ?_
        exact ((if_neg c7_1).trans ((if_pos c17_9).trans ((if_neg c35_15).trans ((if_pos c35_16))))).symm
      by_cases c35_17 : (m 300 n - 1) = 2
      · refine xk_switch rfl (w := 65) (by rw [c35_17]; rfl) ?_
        refine xk_load rfl (p := 67) rfl rfl ?_
        refine xk_if rfl (p := 70) rfl (fun c67_18 => absurd c67_18 (show ¬ ((1 : Int) = (0 : Int)) by decide)) (fun c67_18 => ?_)
        refine xk_load rfl (p := 71) rfl rfl ?_
        refine xk_load rfl (p := 72) rfl rfl ?_
        refine xk_load rfl (p := 73) rfl rfl ?_
        refine xk_callp rfl (p := 76) rfl (by decide) rfl (Nat.le_of_ble_eq_true rfl) (Nat.le_of_ble_eq_true rfl) (xrv (ly_m L) (by decide)) (as := [(2, ((292 : Nat) : Int)), (0, ((n : Nat) : Int)), (0, ((r : Nat) : Int))]) (r := []) rfl (v := (0, m 303 (12 * n + 8 + r))) (n_fresh L hM hI (show n < 4 by omega) (show r < 4 by omega)) ?_
        refine xk_if rfl (p := 79) rfl (fun c76_19 => ?_) (fun c76_19 => ?_)
        · replace c76_19 : m 303 (12 * n + 8 + r) = 0 := c76_19
          refine xk_push rfl (p := 90) rfl ?_
          refine xk_goto rfl ?_
          refine xk_rete rfl (rfl) ?_
          exact ((if_neg c7_1).trans ((if_pos c17_9).trans ((if_neg c35_15).trans ((if_neg c35_16).trans ((if_pos c35_17).trans ((if_pos c76_19))))))).symm
        · replace c76_19 : ¬ (m 303 (12 * n + 8 + r) = 0) := c76_19
          refine xk_load rfl (p := 80) rfl rfl ?_
          refine xk_load rfl (p := 81) rfl rfl ?_
          refine xk_load rfl (p := 82) rfl rfl ?_
          refine xk_callp rfl (p := 85) rfl (by decide) rfl (Nat.le_of_ble_eq_true rfl) (Nat.le_of_ble_eq_true rfl) (xrv (ly_m L) (by decide)) (as := [(2, ((292 : Nat) : Int)), (0, ((n : Nat) : Int)), (0, ((r : Nat) : Int))]) (r := []) rfl (v := (0, m 303 (12 * n + 8 + r))) (n_fresh L hM hI (show n < 4 by omega) (show r < 4 by omega)) ?_
          refine xk_load rfl (p := 86) rfl rfl ?_
          refine xk_icmp rfl (p := 89) rfl (fun c86_20 => ?_) (fun c86_20 => ?_)
          · replace c86_20 : m 303 (12 * n + 8 + r) ≤ x := c86_20
            refine xk_push rfl (p := 94) rfl ?_
            refine xk_rete rfl (rfl) ?_
            exact ((if_neg c7_1).trans ((if_pos c17_9).trans ((if_neg c35_15).trans ((if_neg c35_16).trans ((if_pos c35_17).trans ((if_neg c76_19).trans ((if_pos c86_20)))))))).symm
          · replace c86_20 : ¬ (m 303 (12 * n + 8 + r) ≤ x) := c86_20
            refine xk_push rfl (p := 90) rfl ?_
            refine xk_goto rfl ?_
            refine xk_rete rfl (rfl) ?_
            exact ((if_neg c7_1).trans ((if_pos c17_9).trans ((if_neg c35_15).trans ((if_neg c35_16).trans ((if_pos c35_17).trans ((if_neg c76_19).trans ((if_neg c86_20)))))))).symm
      refine xk_switch rfl (w := 95) (if_pos (by first | omega | (simp only [List.length]; omega))) ?_
      refine xk_load rfl (p := 96) rfl rfl ?_
      refine xk_load rfl (p := 97) rfl rfl ?_
      refine xk_load rfl (p := 98) rfl rfl ?_
      refine xk_callp rfl (p := 101) rfl (by decide) rfl (Nat.le_of_ble_eq_true rfl) (Nat.le_of_ble_eq_true rfl) (xrv (ly_m L) (by decide)) (as := [(2, ((292 : Nat) : Int)), (0, ((n : Nat) : Int)), (0, ((r : Nat) : Int))]) (r := []) rfl (v := (0, m 303 (12 * n + 8 + r))) (n_fresh L hM hI (show n < 4 by omega) (show r < 4 by omega)) ?_
      refine xk_if rfl (p := 104) rfl (fun c101_21 => ?_) (fun c101_21 => ?_)
      · replace c101_21 : m 303 (12 * n + 8 + r) = 0 := c101_21
        refine xk_push rfl (p := 109) rfl ?_
        refine xk_rete rfl (rfl) ?_
        exact ((if_neg c7_1).trans ((if_pos c17_9).trans ((if_neg c35_15).trans ((if_neg c35_16).trans ((if_neg c35_17).trans ((if_pos c101_21))))))).symm
      · replace c101_21 : ¬ (m 303 (12 * n + 8 + r) = 0) := c101_21
        refine xk_push rfl (p := 105) rfl ?_
        refine xk_goto rfl ?_
        refine xk_rete rfl (rfl) ?_
        exact ((if_neg c7_1).trans ((if_pos c17_9).trans ((if_neg c35_15).trans ((if_neg c35_16).trans ((if_neg c35_17).trans ((if_neg c101_21))))))).symm

theorem n_clashes {d : Nat} {g : xG} {t m : xD} {n o : Nat} (L : xLay g) (hM : Mo t m) (hI : Inv m) (hn : n < nN m) (ho : o < nN m) : xCall (d + 1) 146 [(2, ((292 : Nat) : Int)), (0, ((n : Nat) : Int)), (0, ((o : Nat) : Int))] g t (xQ g t (some (0, if bCla m n o = true then (1 : Int) else 0))) := by
  show xOk (d + 1) 146 0 [(2, ((292 : Nat) : Int)), (0, ((n : Nat) : Int)), (0, ((o : Nat) : Int))] [] g t _
  refine xk_load rfl (p := 1) rfl rfl ?_
  refine xk_load rfl (p := 2) rfl rfl ?_
  refine xk_load rfl (p := 3) rfl rfl ?_
  refine xk_callp rfl (p := 6) rfl (by decide) rfl (Nat.le_of_ble_eq_true rfl) (Nat.le_of_ble_eq_true rfl) (xrv (ly_m L) (by decide)) (as := [(2, ((292 : Nat) : Int)), (0, ((n : Nat) : Int)), (0, ((o : Nat) : Int))]) (r := []) rfl (v := (0, (if bFol m n o = true then (1 : Int) else 0))) (n_isFolder L hM hI (show n < nN m by omega) (show o < nN m by omega)) ?_
  refine xk_if rfl (p := 9) rfl (fun c6_1 => ?_) (fun c6_1 => ?_)
  · replace c6_1 : bFol m n o = true := xb_n0 c6_1
    refine xk_push rfl (p := 19) rfl ?_
    refine xk_goto rfl ?_
    refine xk_rete rfl (rfl) ?_
    exact (if_pos (by unfold bCla; simp_all)).symm
  · replace c6_1 : ¬ (bFol m n o = true) := xb_e1 c6_1
    refine xk_load rfl (p := 10) rfl rfl ?_
    refine xk_load rfl (p := 11) rfl rfl ?_
    refine xk_load rfl (p := 12) rfl rfl ?_
    refine xk_callp rfl (p := 15) rfl (by decide) rfl (Nat.le_of_ble_eq_true rfl) (Nat.le_of_ble_eq_true rfl) (xrv (ly_m L) (by decide)) (as := [(2, ((292 : Nat) : Int)), (0, ((o : Nat) : Int)), (0, ((n : Nat) : Int))]) (r := []) rfl (v := (0, (if bFol m o n = true then (1 : Int) else 0))) (n_isFolder L hM hI (show o < nN m by omega) (show n < nN m by omega)) ?_
    refine xk_if rfl (p := 18) rfl (fun c15_2 => ?_) (fun c15_2 => ?_)
    · replace c15_2 : ¬ (bFol m o n = true) := xb_e0 c15_2
      refine xk_push rfl (p := 23) rfl ?_
      refine xk_rete rfl (rfl) ?_
      exact (if_neg (by unfold bCla; simp_all)).symm
    · replace c15_2 : bFol m o n = true := xb_n0 c15_2
      refine xk_push rfl (p := 19) rfl ?_
      refine xk_goto rfl ?_
      refine xk_rete rfl (rfl) ?_
      exact (if_pos (by unfold bCla; simp_all)).symm

/-- a deal's row would clash with the name q -/
def sBad (m : xD) (d r q : Nat) : Prop := ¬ m 303 (12 * d + 8 + r) = 0 ∧ bCla m (m 303 (12 * d + r)).toNat q = true ∧ ((sRow m d ((q : Nat) : Int) = -1 ∧ (¬ sSto m q = 0 ∨ bCom m ((d : Nat) : Int) ((q : Nat) : Int) = true)) ∨ (¬ sRow m d ((q : Nat) : Int) = -1 ∧ ¬ m 303 (12 * d + 8 + (sRow m d ((q : Nat) : Int)).toNat) = 0))
def bBad (m : xD) (d r q : Nat) : Bool := decide (¬ m 303 (12 * d + 8 + r) = 0 ∧ bCla m (m 303 (12 * d + r)).toNat q = true ∧ ((sRow m d ((q : Nat) : Int) = -1 ∧ (¬ sSto m q = 0 ∨ bCom m ((d : Nat) : Int) ((q : Nat) : Int) = true)) ∨ (¬ sRow m d ((q : Nat) : Int) = -1 ∧ ¬ m 303 (12 * d + 8 + (sRow m d ((q : Nat) : Int)).toNat) = 0)))
theorem bBad_iff {m : xD} {d r q : Nat} : bBad m d r q = true ↔ sBad m d r q := decide_eq_true_iff
def sWro (m : xD) (d r : Nat) : Int := if ¬ sLock m (m 303 (12 * d + r)) ((d : Nat) : Int) = -5 then 1 else if sAsk m d r (sSto m (m 303 (12 * d + r)).toNat) = 0 then 2 else if xexb (fun q => decide (bBad m d r q = true)) (nN m) = true then 3 else 0
def sWrong (m : xD) (d : Nat) : Int := wF (sWro m d) (nR m d)
theorem sWro_rng {m : xD} {d r : Nat} : 0 ≤ sWro m d r ∧ sWro m d r ≤ 3 := by
  unfold sWro
  split
  · omega
  · split
    · omega
    · split <;> omega
theorem n_wrongOf {d : Nat} {g : xG} {t m : xD} {n r : Nat} (L : xLay g) (hM : Mo t m) (hI : Inv m) (hn : n < 4) (hk : 0 < m 300 n) (hr : r < nR m n) : xCall (d + 3) 147 [(2, ((292 : Nat) : Int)), (0, ((n : Nat) : Int)), (0, ((r : Nat) : Int))] g t (xQ g t (some (0, sWro m n r))) := by
  show xOk (d + 3) 147 0 [(2, ((292 : Nat) : Int)), (0, ((n : Nat) : Int)), (0, ((r : Nat) : Int)), (3, 0), (3, 0), (3, 0)] [] g t _
  have iNn_ := iNn hI
  have iRn_ := iRn hI hn
  have iRo_ := iRo hI hn hk hr
  refine xk_load rfl (p := 1) rfl rfl ?_
  refine xk_load rfl (p := 2) rfl rfl ?_
  refine xk_load rfl (p := 3) rfl rfl ?_
  refine xk_callp rfl (p := 6) rfl (by decide) rfl (Nat.le_of_ble_eq_true rfl) (Nat.le_of_ble_eq_true rfl) (xrv (ly_m L) (by decide)) (as := [(2, ((292 : Nat) : Int)), (0, ((n : Nat) : Int)), (0, ((r : Nat) : Int))]) (r := []) rfl (v := (0, m 303 (12 * n + r))) (n_nameOf L hM hI (show n < 4 by omega) (show r < 4 by omega)) ?_
  refine xk_store rfl (p := 7) rfl (by decide) (Nat.le_of_ble_eq_true rfl) (ls' := [(2, ((292 : Nat) : Int)), (0, ((n : Nat) : Int)), (0, ((r : Nat) : Int)), (0, m 303 (12 * n + r)), (3, 0), (3, 0)]) rfl ?_
  refine xk_load rfl (p := 8) rfl rfl ?_
  refine xk_load rfl (p := 9) rfl rfl ?_
  refine xk_load rfl (p := 10) rfl rfl ?_
  refine xk_callp rfl (p := 13) rfl (by decide) rfl (Nat.le_of_ble_eq_true rfl) (Nat.le_of_ble_eq_true rfl) (xrv (ly_m L) (by decide)) (as := [(2, ((292 : Nat) : Int)), (0, m 303 (12 * n + r)), (0, ((n : Nat) : Int))]) (r := []) rfl (v := (0, sLock m (m 303 (12 * n + r)) ((n : Nat) : Int))) (n_lockedBy L hM hI) ?_
  refine xk_push rfl (p := 15) rfl ?_
  refine xk_icmp rfl (p := 18) rfl (fun c15_1 => ?_) (fun c15_1 => ?_)
  · replace c15_1 : sLock m (m 303 (12 * n + r)) ((n : Nat) : Int) = (-5) := c15_1
    refine xk_load rfl (p := 21) rfl rfl ?_
    refine xk_load rfl (p := 22) rfl rfl ?_
    refine xk_load rfl (p := 23) rfl rfl ?_
    refine xk_load rfl (p := 24) rfl rfl ?_
    refine xk_load rfl (p := 25) rfl rfl ?_
    refine xk_stk (show _ = (0, (((m 303 (12 * n + r)).toNat : Nat) : Int)) :: [(2, ((292 : Nat) : Int)), (0, ((r : Nat) : Int)), (0, ((n : Nat) : Int)), (2, ((292 : Nat) : Int))] from congrArg (fun z => ((0, z) : xV) :: [(2, ((292 : Nat) : Int)), (0, ((r : Nat) : Int)), (0, ((n : Nat) : Int)), (2, ((292 : Nat) : Int))]) (Int.toNat_of_nonneg (show 0 ≤ m 303 (12 * n + r) by omega)).symm) ?_
    refine xk_callp rfl (p := 28) rfl (by decide) rfl (Nat.le_of_ble_eq_true rfl) (Nat.le_of_ble_eq_true rfl) (xrv (ly_m L) (by decide)) (as := [(2, ((292 : Nat) : Int)), (0, (((m 303 (12 * n + r)).toNat : Nat) : Int))]) (r := [(0, ((r : Nat) : Int)), (0, ((n : Nat) : Int)), (2, ((292 : Nat) : Int))]) rfl (v := (0, sSto m ((m 303 (12 * n + r)).toNat))) (n_stored L hM hI (show (m 303 (12 * n + r)).toNat < 12 by omega)) ?_
    refine xk_callp rfl (p := 31) rfl (by decide) rfl (Nat.le_of_ble_eq_true rfl) (Nat.le_of_ble_eq_true rfl) (xrv (ly_m L) (by decide)) (as := [(2, ((292 : Nat) : Int)), (0, ((n : Nat) : Int)), (0, ((r : Nat) : Int)), (0, sSto m ((m 303 (12 * n + r)).toNat))]) (r := []) rfl (v := (0, sAsk m n r (sSto m ((m 303 (12 * n + r)).toNat)))) (n_isAsked L hM hI (show n < 4 by omega) (show r < 4 by omega)) ?_
    refine xk_if rfl (p := 34) rfl (fun c31_2 => ?_) (fun c31_2 => ?_)
    · replace c31_2 : ¬ (sAsk m n r (sSto m ((m 303 (12 * n + r)).toNat)) = 0) := c31_2
      refine xk_push rfl (p := 37) rfl ?_
      refine xk_store rfl (p := 39) rfl (by decide) (Nat.le_of_ble_eq_true rfl) (ls' := [(2, ((292 : Nat) : Int)), (0, ((n : Nat) : Int)), (0, ((r : Nat) : Int)), (0, m 303 (12 * n + r)), (0, 0), (3, 0)]) rfl ?_
      have lp3 : ∀ k : Nat, k ≤ nN m → ∀ (w5 : xV), (∀ i, i < k → ¬ bBad m n r i = true) → xOk (d + 3) 147 39 [(2, ((292 : Nat) : Int)), (0, ((n : Nat) : Int)), (0, ((r : Nat) : Int)), (0, m 303 (12 * n + r)), (0, ((k : Nat) : Int)), w5] [] g t (xQ g t (some (0, sWro m n r))) := by
        refine xk_up (nN m) (fun k hkk ih3  w5 hi1 => ?_)
        refine xk_load rfl (p := 41) rfl rfl ?_
        refine xk_load rfl (p := 42) rfl rfl ?_
        refine xk_getf rfl (p := 45) rfl (xob (ly_m L) (by decide)) (v := (0, ((nN m : Nat) : Int))) (xsl0 rfl ((hM 292 0 (by decide)).trans (iNn hI).1)) ?_
        have iNn_ := iNn hI
        refine xk_icmp rfl (p := 48) rfl (fun c45_4 => ?_) (fun c45_4 => ?_)
        · replace c45_4 : ((nN m : Nat) : Int) ≤ ((k : Nat) : Int) := c45_4
          refine xk_push rfl (p := 126) rfl ?_
          refine xk_rete rfl (rfl) ?_
          exact ((if_neg (by omega)).trans ((if_neg (by assumption)).trans (if_neg (xexf0 (P := fun q => bBad m n r q = true) (Nat.le_refl _) (fun i hi h => by first | exact hi1 i (by omega) h | (have h := (bBad_iff.mp h).1; contradiction)))))).symm
        · replace c45_4 : ¬ (((nN m : Nat) : Int) ≤ ((k : Nat) : Int)) := c45_4
          refine xk_load rfl (p := 49) rfl rfl ?_
          refine xk_load rfl (p := 50) rfl rfl ?_
          refine xk_load rfl (p := 51) rfl rfl ?_
          refine xk_callp rfl (p := 54) rfl (by decide) rfl (Nat.le_of_ble_eq_true rfl) (Nat.le_of_ble_eq_true rfl) (xrv (ly_m L) (by decide)) (as := [(2, ((292 : Nat) : Int)), (0, ((n : Nat) : Int)), (0, ((r : Nat) : Int))]) (r := []) rfl (v := (0, m 303 (12 * n + 8 + r))) (n_fresh L hM hI (show n < 4 by omega) (show r < 4 by omega)) ?_
          refine xk_if rfl (p := 57) rfl (fun c54_5 => ?_) (fun c54_5 => ?_)
          · replace c54_5 : m 303 (12 * n + 8 + r) = 0 := c54_5
            refine xk_push rfl (p := 126) rfl ?_
            refine xk_rete rfl (rfl) ?_
            exact ((if_neg (by omega)).trans ((if_neg (by assumption)).trans (if_neg (xexf0 (P := fun q => bBad m n r q = true) (Nat.le_refl _) (fun i hi h => by first | exact hi1 i (by omega) h | (have h := (bBad_iff.mp h).1; contradiction)))))).symm
          · replace c54_5 : ¬ (m 303 (12 * n + 8 + r) = 0) := c54_5
            refine xk_load rfl (p := 58) rfl rfl ?_
            refine xk_load rfl (p := 59) rfl rfl ?_
            refine xk_load rfl (p := 61) rfl rfl ?_
            refine xk_stk (show _ = (0, ((k : Nat) : Int)) :: (0, (((m 303 (12 * n + r)).toNat : Nat) : Int)) :: [(2, ((292 : Nat) : Int))] from congrArg (fun z => ((0, ((k : Nat) : Int)) : xV) :: ((0, z) : xV) :: [(2, ((292 : Nat) : Int))]) (Int.toNat_of_nonneg (show 0 ≤ m 303 (12 * n + r) by omega)).symm) ?_
            refine xk_callp rfl (p := 64) rfl (by decide) rfl (Nat.le_of_ble_eq_true rfl) (Nat.le_of_ble_eq_true rfl) (xrv (ly_m L) (by decide)) (as := [(2, ((292 : Nat) : Int)), (0, (((m 303 (12 * n + r)).toNat : Nat) : Int)), (0, ((k : Nat) : Int))]) (r := []) rfl (v := (0, (if bCla m ((m 303 (12 * n + r)).toNat) k = true then (1 : Int) else 0))) (n_clashes L hM hI (show (m 303 (12 * n + r)).toNat < nN m by omega) (show k < nN m by omega)) ?_
            refine xk_if rfl (p := 67) rfl (fun c64_6 => ?_) (fun c64_6 => ?_)
            · replace c64_6 : bCla m ((m 303 (12 * n + r)).toNat) k = true := xb_n0 c64_6
              refine xk_load rfl (p := 71) rfl rfl ?_
              refine xk_load rfl (p := 72) rfl rfl ?_
              refine xk_load rfl (p := 74) rfl rfl ?_
              refine xk_callp rfl (p := 77) rfl (by decide) rfl (Nat.le_of_ble_eq_true rfl) (Nat.le_of_ble_eq_true rfl) (xrv (ly_m L) (by decide)) (as := [(2, ((292 : Nat) : Int)), (0, ((n : Nat) : Int)), (0, ((k : Nat) : Int))]) (r := []) rfl (v := (0, sRow m n ((k : Nat) : Int))) (n_rowFor L hM hI (show n < 4 by omega)) ?_
              have sRow_ := sRow_rng (m := m) (d := n) (x := ((k : Nat) : Int))
              have iRn_ := iRn hI (show n < 4 by omega)
              refine xk_store rfl (p := 79) rfl (by decide) (Nat.le_of_ble_eq_true rfl) (ls' := [(2, ((292 : Nat) : Int)), (0, ((n : Nat) : Int)), (0, ((r : Nat) : Int)), (0, m 303 (12 * n + r)), (0, ((k : Nat) : Int)), (0, sRow m n ((k : Nat) : Int))]) rfl ?_
              refine xk_load rfl (p := 81) rfl rfl ?_
              refine xk_push rfl (p := 82) rfl ?_
              refine xk_icmp rfl (p := 85) rfl (fun c82_7 => ?_) (fun c82_7 => ?_)
              · replace c82_7 : sRow m n ((k : Nat) : Int) = (-1) := c82_7
                refine xk_load rfl (p := 99) rfl rfl ?_
                refine xk_load rfl (p := 101) rfl rfl ?_
                refine xk_callp rfl (p := 104) rfl (by decide) rfl (Nat.le_of_ble_eq_true rfl) (Nat.le_of_ble_eq_true rfl) (xrv (ly_m L) (by decide)) (as := [(2, ((292 : Nat) : Int)), (0, ((k : Nat) : Int))]) (r := []) rfl (v := (0, sSto m k)) (n_stored L hM hI (show k < 12 by omega)) ?_
                refine xk_if rfl (p := 107) rfl (fun c104_8 => ?_) (fun c104_8 => ?_)
                · replace c104_8 : ¬ (sSto m k = 0) := c104_8
                  refine xk_push rfl (p := 118) rfl ?_
                  refine xk_rete rfl (rfl) ?_
                  exact ((if_neg (by omega)).trans ((if_neg (by assumption)).trans (if_pos (xexf1 (by omega) hi1 (bBad_iff.mpr (by unfold sBad; simp_all)))))).symm
                · replace c104_8 : sSto m k = 0 := Decidable.not_not.mp c104_8
                  refine xk_load rfl (p := 108) rfl rfl ?_
                  refine xk_load rfl (p := 109) rfl rfl ?_
                  refine xk_load rfl (p := 111) rfl rfl ?_
                  refine xk_callp rfl (p := 114) rfl (by decide) rfl (Nat.le_of_ble_eq_true rfl) (Nat.le_of_ble_eq_true rfl) (xrv (ly_m L) (by decide)) (as := [(2, ((292 : Nat) : Int)), (0, ((n : Nat) : Int)), (0, ((k : Nat) : Int))]) (r := []) rfl (v := (0, (if bCom m ((n : Nat) : Int) ((k : Nat) : Int) = true then (1 : Int) else 0))) (n_isComing L hM hI (show n < 4 by omega)) ?_
                  refine xk_if rfl (p := 117) rfl (fun c114_9 => ?_) (fun c114_9 => ?_)
                  · replace c114_9 : ¬ (bCom m ((n : Nat) : Int) ((k : Nat) : Int) = true) := xb_e0 c114_9
                    refine xk_inc1 rfl (p := 122) rfl (n := k) rfl (by omega) (ls' := [(2, ((292 : Nat) : Int)), (0, ((n : Nat) : Int)), (0, ((r : Nat) : Int)), (0, m 303 (12 * n + r)), (0, ((k + 1 : Nat) : Int)), (0, sRow m n ((k : Nat) : Int))]) rfl ?_
                    refine xk_goto rfl ?_
                    exact ih3 (by omega) (0, sRow m n ((k : Nat) : Int)) (by exact xall_up hi1 (fun h => by have h := bBad_iff.mp h; unfold sBad at h; simp_all))
                  · replace c114_9 : bCom m ((n : Nat) : Int) ((k : Nat) : Int) = true := xb_n0 c114_9
                    refine xk_push rfl (p := 118) rfl ?_
                    refine xk_rete rfl (rfl) ?_
                    exact ((if_neg (by omega)).trans ((if_neg (by assumption)).trans (if_pos (xexf1 (by omega) hi1 (bBad_iff.mpr (by unfold sBad; simp_all)))))).symm
              · replace c82_7 : ¬ (sRow m n ((k : Nat) : Int) = (-1)) := c82_7
                refine xk_load rfl (p := 86) rfl rfl ?_
                refine xk_load rfl (p := 87) rfl rfl ?_
                refine xk_load rfl (p := 89) rfl rfl ?_
                refine xk_stk (show _ = (0, (((sRow m n ((k : Nat) : Int)).toNat : Nat) : Int)) :: [(0, ((n : Nat) : Int)), (2, ((292 : Nat) : Int))] from congrArg (fun z => ((0, z) : xV) :: [(0, ((n : Nat) : Int)), (2, ((292 : Nat) : Int))]) (Int.toNat_of_nonneg (show 0 ≤ sRow m n ((k : Nat) : Int) by omega)).symm) ?_
                refine xk_callp rfl (p := 92) rfl (by decide) rfl (Nat.le_of_ble_eq_true rfl) (Nat.le_of_ble_eq_true rfl) (xrv (ly_m L) (by decide)) (as := [(2, ((292 : Nat) : Int)), (0, ((n : Nat) : Int)), (0, (((sRow m n ((k : Nat) : Int)).toNat : Nat) : Int))]) (r := []) rfl (v := (0, m 303 (12 * n + 8 + ((sRow m n ((k : Nat) : Int)).toNat)))) (n_fresh L hM hI (show n < 4 by omega) (show (sRow m n ((k : Nat) : Int)).toNat < 4 by omega)) ?_
                refine xk_if rfl (p := 95) rfl (fun c92_10 => ?_) (fun c92_10 => ?_)
                · replace c92_10 : m 303 (12 * n + 8 + ((sRow m n ((k : Nat) : Int)).toNat)) = 0 := c92_10
                  refine xk_inc1 rfl (p := 122) rfl (n := k) rfl (by omega) (ls' := [(2, ((292 : Nat) : Int)), (0, ((n : Nat) : Int)), (0, ((r : Nat) : Int)), (0, m 303 (12 * n + r)), (0, ((k + 1 : Nat) : Int)), (0, sRow m n ((k : Nat) : Int))]) rfl ?_
                  refine xk_goto rfl ?_
                  exact ih3 (by omega) (0, sRow m n ((k : Nat) : Int)) (by exact xall_up hi1 (fun h => by have h := bBad_iff.mp h; unfold sBad at h; simp_all))
                · replace c92_10 : ¬ (m 303 (12 * n + 8 + ((sRow m n ((k : Nat) : Int)).toNat)) = 0) := c92_10
                  refine xk_goto rfl ?_
                  refine xk_push rfl (p := 118) rfl ?_
                  refine xk_rete rfl (rfl) ?_
                  exact ((if_neg (by omega)).trans ((if_neg (by assumption)).trans (if_pos (xexf1 (by omega) hi1 (bBad_iff.mpr (by unfold sBad; simp_all)))))).symm
            · replace c64_6 : ¬ (bCla m ((m 303 (12 * n + r)).toNat) k = true) := xb_e1 c64_6
              refine xk_goto rfl ?_
              refine xk_inc1 rfl (p := 122) rfl (n := k) rfl (by omega) (ls' := [(2, ((292 : Nat) : Int)), (0, ((n : Nat) : Int)), (0, ((r : Nat) : Int)), (0, m 303 (12 * n + r)), (0, ((k + 1 : Nat) : Int)), w5]) rfl ?_
              refine xk_goto rfl ?_
              exact ih3 (by omega) w5 (by exact xall_up hi1 (fun h => by have h := bBad_iff.mp h; unfold sBad at h; simp_all))
      exact lp3 0 (by omega) (3, 0) (by intro i h; omega)
    · replace c31_2 : sAsk m n r (sSto m ((m 303 (12 * n + r)).toNat)) = 0 := Decidable.not_not.mp c31_2
      refine xk_push rfl (p := 35) rfl ?_
      refine xk_rete rfl (rfl) ?_
      exact ((if_neg (by omega)).trans (if_pos (by assumption))).symm
  · replace c15_1 : ¬ (sLock m (m 303 (12 * n + r)) ((n : Nat) : Int) = (-5)) := c15_1
    refine xk_push rfl (p := 19) rfl ?_
    refine xk_rete rfl (rfl) ?_
    exact (if_pos (by assumption)).symm

theorem n_wrong {d : Nat} {g : xG} {t m : xD} {n : Nat} (L : xLay g) (hM : Mo t m) (hI : Inv m) (hn : n < 4) (hk : 0 < m 300 n) : xCall (d + 4) 148 [(2, ((292 : Nat) : Int)), (0, ((n : Nat) : Int))] g t (xQ g t (some (0, sWrong m n))) := by
  show xOk (d + 4) 148 0 [(2, ((292 : Nat) : Int)), (0, ((n : Nat) : Int)), (3, 0)] [] g t _
  have iRn_ := iRn hI hn
  refine xk_push rfl (p := 1) rfl ?_
  refine xk_store rfl (p := 2) rfl (by decide) (Nat.le_of_ble_eq_true rfl) (ls' := [(2, ((292 : Nat) : Int)), (0, ((n : Nat) : Int)), (0, 0)]) rfl ?_
  have lp1 : ∀ k : Nat, k ≤ nR m n → (∀ i, i < k → ¬ (0 < sWro m n i)) → xOk (d + 4) 148 2 [(2, ((292 : Nat) : Int)), (0, ((n : Nat) : Int)), (0, ((k : Nat) : Int))] [] g t (xQ g t (some (0, sWrong m n))) := by
    refine xk_up (nR m n) (fun k hkk ih1  hi1 => ?_)
    refine xk_load rfl (p := 3) rfl rfl ?_
    refine xk_load rfl (p := 4) rfl rfl ?_
    refine xk_getf rfl (p := 7) rfl (xob (ly_m L) (by decide)) (v := (2, ((301 : Nat) : Int))) (xsl2 rfl (ly_mp10 L)) ?_
    refine xk_load rfl (p := 8) rfl rfl ?_
    refine xk_ald rfl (p := 9) rfl (v := (0, ((nR m n : Nat) : Int))) ((xal0 (ly_ms10 L) (show n < 4 by omega)).trans (congrArg (fun z => some (0, z)) ((hM 301 n (by decide)).trans (iRn hI (show n < 4 by omega)).1))) ?_
    have iRn_ := iRn hI (show n < 4 by omega)
    refine xk_icmp rfl (p := 12) rfl (fun c9_2 => ?_) (fun c9_2 => ?_)
    · replace c9_2 : ((nR m n : Nat) : Int) ≤ ((k : Nat) : Int) := c9_2
      refine xk_push rfl (p := 40) rfl ?_
      refine xk_rete rfl (rfl) ?_
      exact (wF_no (fun i hi => hi1 i (by omega))).symm
    · replace c9_2 : ¬ (((nR m n : Nat) : Int) ≤ ((k : Nat) : Int)) := c9_2
      refine xk_load rfl (p := 13) rfl rfl ?_
      refine xk_load rfl (p := 14) rfl rfl ?_
      refine xk_load rfl (p := 15) rfl rfl ?_
      refine xk_callp rfl (p := 18) rfl (by decide) rfl (Nat.le_of_ble_eq_true rfl) (Nat.le_of_ble_eq_true rfl) (xrv (ly_m L) (by decide)) (as := [(2, ((292 : Nat) : Int)), (0, ((n : Nat) : Int)), (0, ((k : Nat) : Int))]) (r := []) rfl (v := (0, sWro m n k)) (n_wrongOf L hM hI (show n < 4 by omega) (by omega) (by omega)) ?_
      have sWro_ := sWro_rng (m := m) (d := n) (r := k)
      refine xk_if rfl (p := 21) rfl (fun c18_3 => ?_) (fun c18_3 => ?_)
      · replace c18_3 : sWro m n k ≤ 0 := c18_3
        refine xk_inc1 rfl (p := 36) rfl (n := k) rfl (by omega) (ls' := [(2, ((292 : Nat) : Int)), (0, ((n : Nat) : Int)), (0, ((k + 1 : Nat) : Int))]) rfl ?_
        refine xk_goto rfl ?_
        exact ih1 (by omega)  (by exact xall_up hi1 (by omega))
      · replace c18_3 : ¬ (sWro m n k ≤ 0) := c18_3
        refine xk_push rfl (p := 23) rfl ?_
        refine xk_load rfl (p := 24) rfl rfl ?_
        refine xk_bin rfl (p := 25) rfl (z := ((10 * k : Nat) : Int)) (congrArg some (xmul_n (n := 10) (m := k) (by omega))) ?_
        refine xk_load rfl (p := 26) rfl rfl ?_
        refine xk_load rfl (p := 27) rfl rfl ?_
        refine xk_load rfl (p := 28) rfl rfl ?_
        refine xk_callp rfl (p := 31) rfl (by decide) rfl (Nat.le_of_ble_eq_true rfl) (Nat.le_of_ble_eq_true rfl) (xrv (ly_m L) (by decide)) (as := [(2, ((292 : Nat) : Int)), (0, ((n : Nat) : Int)), (0, ((k : Nat) : Int))]) (r := [(0, ((10 * k : Nat) : Int))]) rfl (v := (0, sWro m n k)) (n_wrongOf L hM hI (show n < 4 by omega) (by omega) (by omega)) ?_
        have sWro_ := sWro_rng (m := m) (d := n) (r := k)
        refine xk_bin rfl (p := 32) rfl (z := (((10 * k : Nat) : Int) + sWro m n k)) (congrArg some (xadd_r (by omega) (by omega))) ?_
        refine xk_rete rfl (rfl) ?_
        exact (wF_at (by omega) hi1 rfl (by omega)).symm
  exact lp1 0 (by omega)  (by intro i h; omega)
