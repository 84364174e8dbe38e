/-! THE SMALL OBJECTS' METHODS -/
/-- a deal lies at a, its arrays behind it -/
def xDl (g : xG) (a : Nat) : Prop := g.2.1 a = (0, 6) ∧ g.2.1 (a + 1) = (20, 4) ∧ g.2.1 (a + 2) = (20, 4) ∧ g.2.1 (a + 3) = (20, 4) ∧ g.2.2 a 0 = ((a + 1 : Nat) : Int) ∧ g.2.2 a 1 = ((a + 2 : Nat) : Int) ∧ g.2.2 a 2 = ((a + 3 : Nat) : Int)
def xJr (g : xG) (a : Nat) : Prop := g.2.1 a = (1, 4) ∧ g.2.1 (a + 1) = (20, 6) ∧ g.2.1 (a + 2) = (20, 6) ∧ g.2.1 (a + 3) = (20, 6) ∧ g.2.2 a 0 = ((a + 1 : Nat) : Int) ∧ g.2.2 a 1 = ((a + 2 : Nat) : Int) ∧ g.2.2 a 2 = ((a + 3 : Nat) : Int)
def xPr (g : xG) (a : Nat) : Prop := g.2.1 a = (4, 4) ∧ g.2.1 (a + 1) = (20, 10) ∧ g.2.1 (a + 2) = (20, 10) ∧ g.2.2 a 0 = ((a + 1 : Nat) : Int) ∧ g.2.2 a 1 = ((a + 2 : Nat) : Int)
def xTp (g : xG) (a : Nat) : Prop := g.2.1 a = (6, 3) ∧ g.2.1 (a + 1) = (21, 60) ∧ g.2.2 a 0 = ((a + 1 : Nat) : Int)
def xNm (g : xG) (a : Nat) : Prop := g.2.1 a = (2, 8) ∧ xJr g (a + 1) ∧ g.2.2 a 0 = ((a + 1 : Nat) : Int)
def xTx (g : xG) : Prop := g.2.1 3 = (7, 2) ∧ g.2.1 4 = (22, 100) ∧ g.2.2 3 0 = ((4 : Nat) : Int)

theorem m_rowFor {d a R : Nat} {g : xG} {t : xD} {x : Int} (hd : xDl g a) (hr : t a 3 = ((R : Nat) : Int)) (hR : R ≤ 4) : xCall (d) 3 [(2, ((a : Nat) : Int)), (0, x)] g t (xQ g t (some (0, xix R (xfst (fun r => decide (t (a + 1) r = x)) R)))) := by
  show xOk (d) 3 0 [(2, ((a : Nat) : Int)), (0, x), (3, 0)] [] g t _
  obtain ⟨h0, h1, h2, h3, p0, p1, p2⟩ := hd
  refine xk_push rfl (p := 1) rfl ?_
  refine xk_store rfl (p := 2) rfl (by decide) (Nat.le_of_ble_eq_true rfl) (ls' := [(2, ((a : Nat) : Int)), (0, x), (0, 0)]) rfl ?_
  have lp2 : ∀ k : Nat, k ≤ R → (∀ i, i < k → ¬ t (a + 1) i = x) → xOk (d) 3 2 [(2, ((a : Nat) : Int)), (0, x), (0, ((k : Nat) : Int))] [] g t (xQ g t (some (0, xix R (xfst (fun r => decide (t (a + 1) r = x)) R)))) := by
    refine xk_up R (fun k hk ih2  hi1 => ?_)
    refine xk_load rfl (p := 3) rfl rfl ?_
    refine xk_load rfl (p := 4) rfl rfl ?_
    refine xk_getf rfl (p := 7) rfl (xob h0 (by decide)) (v := (0, ((R : Nat) : Int))) (xsl0 rfl hr) ?_
    refine xk_icmp rfl (p := 10) rfl (fun c7 => ?_) (fun c7 => ?_)
    · replace c7 : (((R : Nat) : Int)) ≤ (((k : Nat) : Int)) := c7
      refine xk_push rfl (p := 29) rfl ?_
      refine xk_rete rfl (rfl) ?_
      rw [xfst_eq (k := R) (by omega) (fun i h => decide_eq_false (hi1 i (by omega))) (fun h => absurd h (Nat.lt_irrefl R))]; exact (if_neg (Nat.lt_irrefl R)).symm
    · replace c7 : ¬ (((R : Nat) : Int)) ≤ (((k : Nat) : Int)) := c7
      refine xk_load rfl (p := 11) rfl rfl ?_
      refine xk_getf rfl (p := 14) rfl (xob h0 (by decide)) (v := (2, (((a + 1) : Nat) : Int))) (xsl2 rfl p0) ?_
      refine xk_load rfl (p := 15) rfl rfl ?_
      refine xk_ald rfl (p := 16) rfl (v := (0, t ((a + 1)) (k))) (xal0 h1 (by omega)) ?_
      refine xk_load rfl (p := 17) rfl rfl ?_
      refine xk_icmp rfl (p := 20) rfl (fun c17 => ?_) (fun c17 => ?_)
      · replace c17 : ¬ (t ((a + 1)) (k)) = (x) := c17
        refine xk_inc1 rfl (p := 25) rfl (n := k) rfl (by omega) (ls' := [(2, ((a : Nat) : Int)), (0, x), (0, ((k + 1 : Nat) : Int))]) rfl ?_
        refine xk_goto rfl ?_
        exact ih2 (by omega)  (by exact xall_up hi1 c17)
      · replace c17 : ¬ (¬ (t ((a + 1)) (k)) = (x)) := c17
        refine xk_load rfl (p := 21) rfl rfl ?_
        refine xk_rete rfl (rfl) ?_
        rw [xfst_eq (k := k) (by omega) (fun i h => decide_eq_false (hi1 i h)) (fun _ => decide_eq_true (Decidable.not_not.mp c17))]; exact (if_pos (by omega)).symm
  exact lp2 (0) (by omega)  (by intro i h; omega)

theorem m_dbegin {d a : Nat} {g : xG} {t : xD} {k : Int} (hd : xDl g a) (ha : 2 ≤ a) : xCall (d) 1 [(2, ((a : Nat) : Int)), (0, k)] g t (xQ g (xupd (xupd (xupd t a 4 k) a 5 0) a 3 0) none) := by
  show xOk (d) 1 0 [(2, ((a : Nat) : Int)), (0, k)] [] g t _
  obtain ⟨h0, h1, h2, h3, p0, p1, p2⟩ := hd
  refine xk_load rfl (p := 1) rfl rfl ?_
  refine xk_load rfl (p := 2) rfl rfl ?_
  refine xk_putf rfl (p := 5) rfl (xob h0 (by decide)) rfl (by decide) (by decide) (fun h => absurd h (by decide)) (by omega) ?_
  refine xk_load rfl (p := 6) rfl rfl ?_
  refine xk_push rfl (p := 7) rfl ?_
  refine xk_putf rfl (p := 10) rfl (xob h0 (by decide)) rfl (by decide) (by decide) (fun h => absurd h (by decide)) (by omega) ?_
  refine xk_load rfl (p := 11) rfl rfl ?_
  refine xk_push rfl (p := 12) rfl ?_
  refine xk_putf rfl (p := 15) rfl (xob h0 (by decide)) rfl (by decide) (by decide) (fun h => absurd h (by decide)) (by omega) ?_
  refine xk_ret rfl rfl ?_
  exact ⟨rfl, rfl, rfl⟩

theorem m_dadd {d a R : Nat} {g : xG} {t : xD} {x y z : Int} (hd : xDl g a) (ha : 2 ≤ a) (hr : t a 3 = ((R : Nat) : Int)) (hR : R < 4) : xCall (d) 2 [(2, ((a : Nat) : Int)), (0, x), (0, y), (0, z)] g t (xQ g (xupd (xupd (xupd (xupd t (a + 1) R x) (a + 2) R y) (a + 3) R z) a 3 ((R + 1 : Nat) : Int)) (some (0, ((R + 1 : Nat) : Int)))) := by
  show xOk (d) 2 0 [(2, ((a : Nat) : Int)), (0, x), (0, y), (0, z)] [] g t _
  obtain ⟨h0, h1, h2, h3, p0, p1, p2⟩ := hd
  refine xk_load rfl (p := 1) rfl rfl ?_
  refine xk_getf rfl (p := 4) rfl (xob h0 (by decide)) (v := (2, (((a + 1) : Nat) : Int))) (xsl2 rfl p0) ?_
  refine xk_load rfl (p := 5) rfl rfl ?_
  refine xk_getf rfl (p := 8) rfl (xob h0 (by decide)) (v := (0, ((R : Nat) : Int))) (xsl0 rfl hr) ?_
  refine xk_load rfl (p := 9) rfl rfl ?_
  refine xk_ast rfl (p := 10) rfl (by decide) rfl (xsk h1) (xsn h1 (by omega)) (by omega) ?_
  refine xk_load rfl (p := 11) rfl rfl ?_
  refine xk_getf rfl (p := 14) rfl (xob h0 (by decide)) (v := (2, (((a + 2) : Nat) : Int))) (xsl2 rfl p1) ?_
  refine xk_load rfl (p := 15) rfl rfl ?_
  refine xk_getf rfl (p := 18) rfl (xob h0 (by decide)) (v := (0, ((R : Nat) : Int))) (xsl0 rfl ((xupd_ne (by omega)).trans hr)) ?_
  refine xk_load rfl (p := 19) rfl rfl ?_
  refine xk_ast rfl (p := 20) rfl (by decide) rfl (xsk h2) (xsn h2 (by omega)) (by omega) ?_
  refine xk_load rfl (p := 21) rfl rfl ?_
  refine xk_getf rfl (p := 24) rfl (xob h0 (by decide)) (v := (2, (((a + 3) : Nat) : Int))) (xsl2 rfl p2) ?_
  refine xk_load rfl (p := 25) rfl rfl ?_
  refine xk_getf rfl (p := 28) rfl (xob h0 (by decide)) (v := (0, ((R : Nat) : Int))) (xsl0 rfl ((xupd_ne (by omega)).trans ((xupd_ne (by omega)).trans hr))) ?_
  refine xk_load rfl (p := 29) rfl rfl ?_
  refine xk_ast rfl (p := 30) rfl (by decide) rfl (xsk h3) (xsn h3 (by omega)) (by omega) ?_
  refine xk_load rfl (p := 31) rfl rfl ?_
  refine xk_dup rfl (p := 32) rfl (show ¬ (2 : Nat) = 1 by decide) ?_
  refine xk_getf rfl (p := 35) rfl (xob h0 (by decide)) (v := (0, ((R : Nat) : Int))) (xsl0 rfl ((xupd_ne (by omega)).trans ((xupd_ne (by omega)).trans ((xupd_ne (by omega)).trans hr)))) ?_
  refine xk_push rfl (p := 36) rfl ?_
  refine xk_bin rfl (p := 37) rfl (z := ((R + 1 : Nat) : Int)) (congrArg some (xadd_n (n := R) (m := 1) (by omega))) ?_
  refine xk_putf rfl (p := 40) rfl (xob h0 (by decide)) rfl (by decide) (by decide) (fun h => absurd h (by decide)) (by omega) ?_
  refine xk_load rfl (p := 41) rfl rfl ?_
  refine xk_getf rfl (p := 44) rfl (xob h0 (by decide)) (v := (0, ((R + 1 : Nat) : Int))) (xsl0 rfl xupd_eq) ?_
  refine xk_rete rfl (rfl) ?_
  rfl

theorem m_locks {d a R : Nat} {g : xG} {t : xD} {x : Int} (hd : xDl g a) (hr : t a 3 = ((R : Nat) : Int)) (hR : R ≤ 4) : xCall (d + 1) 4 [(2, ((a : Nat) : Int)), (0, x)] g t (xQ g t (some (0, if (t a 5 = 1 ∨ t a 5 = 2) ∧ xfst (fun r => decide (t (a + 1) r = x)) R < R then 1 else 0))) := by
  show xOk (d + 1) 4 0 [(2, ((a : Nat) : Int)), (0, x)] [] g t _
  have hd' := hd
  obtain ⟨h0, h1, h2, h3, p0, p1, p2⟩ := hd'
  refine xk_load rfl (p := 1) rfl rfl ?_
  refine xk_getf rfl (p := 4) rfl (xob h0 (by decide)) (v := (0, t (a) 5)) (rfl) ?_
  refine xk_push rfl (p := 5) rfl ?_
  refine xk_icmp rfl (p := 8) rfl (fun c5 => ?_) (fun c5 => ?_)
  · replace c5 : (t (a) 5) = (1) := c5
    refine xk_load rfl (p := 17) rfl rfl ?_
    refine xk_load rfl (p := 18) rfl rfl ?_
    refine xk_callp rfl (p := 21) rfl (by decide) rfl (Nat.le_of_ble_eq_true rfl) (Nat.le_of_ble_eq_true rfl) (xrv h0 (by decide)) (as := [(2, ((a : Nat) : Int)), (0, x)]) (r := []) rfl (v := (0, xix R (xfst (fun r => decide (t (a + 1) r = x)) R))) (m_rowFor hd hr hR) ?_
    refine xk_if rfl (p := 24) rfl (fun c21 => ?_) (fun c21 => ?_)
    · replace c21 : (xix R (xfst (fun r => decide (t (a + 1) r = x)) R)) < (0) := c21
      refine xk_push rfl (p := 29) rfl ?_
      refine xk_rete rfl (rfl) ?_
      try simp only [xix_lt] at *
      split <;> omega
    · replace c21 : ¬ (xix R (xfst (fun r => decide (t (a + 1) r = x)) R)) < (0) := c21
      refine xk_push rfl (p := 25) rfl ?_
      refine xk_goto rfl ?_
      refine xk_rete rfl (rfl) ?_
      try simp only [xix_lt] at *
      split <;> omega
  · replace c5 : ¬ (t (a) 5) = (1) := c5
    refine xk_load rfl (p := 9) rfl rfl ?_
    refine xk_getf rfl (p := 12) rfl (xob h0 (by decide)) (v := (0, t (a) 5)) (rfl) ?_
    refine xk_push rfl (p := 13) rfl ?_
    refine xk_icmp rfl (p := 16) rfl (fun c13 => ?_) (fun c13 => ?_)
    · replace c13 : ¬ (t (a) 5) = (2) := c13
      refine xk_push rfl (p := 29) rfl ?_
      refine xk_rete rfl (rfl) ?_
      try simp only [xix_lt] at *
      split <;> omega
    · replace c13 : ¬ (¬ (t (a) 5) = (2)) := c13
      refine xk_load rfl (p := 17) rfl rfl ?_
      refine xk_load rfl (p := 18) rfl rfl ?_
      refine xk_callp rfl (p := 21) rfl (by decide) rfl (Nat.le_of_ble_eq_true rfl) (Nat.le_of_ble_eq_true rfl) (xrv h0 (by decide)) (as := [(2, ((a : Nat) : Int)), (0, x)]) (r := []) rfl (v := (0, xix R (xfst (fun r => decide (t (a + 1) r = x)) R))) (m_rowFor hd hr hR) ?_
      refine xk_if rfl (p := 24) rfl (fun c21 => ?_) (fun c21 => ?_)
      · replace c21 : (xix R (xfst (fun r => decide (t (a + 1) r = x)) R)) < (0) := c21
        refine xk_push rfl (p := 29) rfl ?_
        refine xk_rete rfl (rfl) ?_
        try simp only [xix_lt] at *
        split <;> omega
      · replace c21 : ¬ (xix R (xfst (fun r => decide (t (a + 1) r = x)) R)) < (0) := c21
        refine xk_push rfl (p := 25) rfl ?_
        refine xk_goto rfl ?_
        refine xk_rete rfl (rfl) ?_
        try simp only [xix_lt] at *
        split <;> omega

/-- is the row asked for -/
def xask (k old fr s : Int) : Int := if (k = 1 ∨ (k = 2 ∧ (old = -1 ∨ old = s) ∧ (fr = 0 ∨ s < fr)) ∨ (k = 3 ∧ ¬ fr = 0) ∨ (¬ k = 1 ∧ ¬ k = 2 ∧ ¬ k = 3 ∧ (old = -1 ∨ old = s))) then 1 else 0
theorem m_isAsked {d a r : Nat} {g : xG} {t : xD} {s : Int} (hd : xDl g a) (hr : r < 4) : xCall (d) 5 [(2, ((a : Nat) : Int)), (0, ((r : Nat) : Int)), (0, s)] g t (xQ g t (some (0, xask (t a 4) (t (a + 2) r) (t (a + 3) r) s))) := by
  show xOk (d) 5 0 [(2, ((a : Nat) : Int)), (0, ((r : Nat) : Int)), (0, s), (3, 0)] [] g t _
  obtain ⟨h0, h1, h2, h3, p0, p1, p2⟩ := hd
  have jn25 : xOk (d) 5 25 [(2, ((a : Nat) : Int)), (0, ((r : Nat) : Int)), (0, s), (3, 0)] [(0, (if t (a + 2) r = -1 ∨ t (a + 2) r = s then (1 : Int) else 0))] g t (xQ g t (some (0, xask (t a 4) (t (a + 2) r) (t (a + 3) r) s))) := by
    refine xk_store rfl (p := 26) rfl (by decide) (Nat.le_of_ble_eq_true rfl) (ls' := [(2, ((a : Nat) : Int)), (0, ((r : Nat) : Int)), (0, s), (0, (if t (a + 2) r = -1 ∨ t (a + 2) r = s then (1 : Int) else 0))]) rfl ?_
    refine xk_load rfl (p := 27) rfl rfl ?_
    refine xk_getf rfl (p := 30) rfl (xob h0 (by decide)) (v := (0, t (a) 4)) (rfl) ?_
    by_cases c30_0 : t (a) 4 = (1)
    · refine xk_switch rfl (w := 56) (by rw [c30_0]; rfl) ?_
      refine xk_push rfl (p := 57) rfl ?_
      refine xk_rete rfl (rfl) ?_
      unfold xask
      first | exact (if_pos (by omega)).symm | exact (if_neg (by omega)).symm | (split at * <;> first | exact (if_pos (by omega)).symm | exact (if_neg (by omega)).symm)
    by_cases c30_1 : t (a) 4 = (2)
    · refine xk_switch rfl (w := 58) (by rw [c30_1]; rfl) ?_
      refine xk_load rfl (p := 59) rfl rfl ?_
      refine xk_if rfl (p := 62) rfl (fun c59 => ?_) (fun c59 => ?_)
      · replace c59 : ((if t (a + 2) r = -1 ∨ t (a + 2) r = s then (1 : Int) else 0)) = (0) := c59
        refine xk_push rfl (p := 86) rfl ?_
        refine xk_rete rfl (rfl) ?_
        unfold xask
        first | exact (if_pos (by omega)).symm | exact (if_neg (by omega)).symm | (split at * <;> first | exact (if_pos (by omega)).symm | exact (if_neg (by omega)).symm)
      · replace c59 : ¬ ((if t (a + 2) r = -1 ∨ t (a + 2) r = s then (1 : Int) else 0)) = (0) := c59
        refine xk_load rfl (p := 63) rfl rfl ?_
        refine xk_getf rfl (p := 66) rfl (xob h0 (by decide)) (v := (2, (((a + 3) : Nat) : Int))) (xsl2 rfl p2) ?_
        refine xk_load rfl (p := 67) rfl rfl ?_
        refine xk_ald rfl (p := 68) rfl (v := (0, t ((a + 3)) (r))) (xal0 h3 (by omega)) ?_
        refine xk_if rfl (p := 71) rfl (fun c68 => ?_) (fun c68 => ?_)
        · replace c68 : (t ((a + 3)) (r)) = (0) := c68
          refine xk_push rfl (p := 82) rfl ?_
          refine xk_goto rfl ?_
          refine xk_rete rfl (rfl) ?_
          unfold xask
          first | exact (if_pos (by omega)).symm | exact (if_neg (by omega)).symm | (split at * <;> first | exact (if_pos (by omega)).symm | exact (if_neg (by omega)).symm)
        · replace c68 : ¬ (t ((a + 3)) (r)) = (0) := c68
          refine xk_load rfl (p := 72) rfl rfl ?_
          refine xk_getf rfl (p := 75) rfl (xob h0 (by decide)) (v := (2, (((a + 3) : Nat) : Int))) (xsl2 rfl p2) ?_
          refine xk_load rfl (p := 76) rfl rfl ?_
          refine xk_ald rfl (p := 77) rfl (v := (0, t ((a + 3)) (r))) (xal0 h3 (by omega)) ?_
          refine xk_load rfl (p := 78) rfl rfl ?_
          refine xk_icmp rfl (p := 81) rfl (fun c78 => ?_) (fun c78 => ?_)
          · replace c78 : (t ((a + 3)) (r)) ≤ (s) := c78
            refine xk_push rfl (p := 86) rfl ?_
            refine xk_rete rfl (rfl) ?_
            unfold xask
            first | exact (if_pos (by omega)).symm | exact (if_neg (by omega)).symm | (split at * <;> first | exact (if_pos (by omega)).symm | exact (if_neg (by omega)).symm)
          · replace c78 : ¬ (t ((a + 3)) (r)) ≤ (s) := c78
            refine xk_push rfl (p := 82) rfl ?_
            refine xk_goto rfl ?_
            refine xk_rete rfl (rfl) ?_
            unfold xask
            first | exact (if_pos (by omega)).symm | exact (if_neg (by omega)).symm | (split at * <;> first | exact (if_pos (by omega)).symm | exact (if_neg (by omega)).symm)
    by_cases c30_2 : t (a) 4 = (3)
    · refine xk_switch rfl (w := 87) (by rw [c30_2]; rfl) ?_
      refine xk_load rfl (p := 88) rfl rfl ?_
      refine xk_getf rfl (p := 91) rfl (xob h0 (by decide)) (v := (2, (((a + 3) : Nat) : Int))) (xsl2 rfl p2) ?_
      refine xk_load rfl (p := 92) rfl rfl ?_
      refine xk_ald rfl (p := 93) rfl (v := (0, t ((a + 3)) (r))) (xal0 h3 (by omega)) ?_
      refine xk_if rfl (p := 96) rfl (fun c93 => ?_) (fun c93 => ?_)
      · replace c93 : (t ((a + 3)) (r)) = (0) := c93
        refine xk_push rfl (p := 101) rfl ?_
        refine xk_rete rfl (rfl) ?_
        unfold xask
        first | exact (if_pos (by omega)).symm | exact (if_neg (by omega)).symm | (split at * <;> first | exact (if_pos (by omega)).symm | exact (if_neg (by omega)).symm)
      · replace c93 : ¬ (t ((a + 3)) (r)) = (0) := c93
        refine xk_push rfl (p := 97) rfl ?_
        refine xk_goto rfl ?_
        refine xk_rete rfl (rfl) ?_
        unfold xask
        first | exact (if_pos (by omega)).symm | exact (if_neg (by omega)).symm | (split at * <;> first | exact (if_pos (by omega)).symm | exact (if_neg (by omega)).symm)
    refine xk_switch rfl (w := 102) (if_pos (by first | omega | (simp only [List.length]; omega))) ?_
    refine xk_load rfl (p := 103) rfl rfl ?_
    refine xk_rete rfl (xret_b rfl (by first | (split <;> simp) | omega)) ?_
    unfold xask
    first | exact (if_pos (by omega)).symm | exact (if_neg (by omega)).symm | (split at * <;> first | exact (if_pos (by omega)).symm | exact (if_neg (by omega)).symm)
  refine xk_load rfl (p := 1) rfl rfl ?_
  refine xk_getf rfl (p := 4) rfl (xob h0 (by decide)) (v := (2, (((a + 2) : Nat) : Int))) (xsl2 rfl p1) ?_
  refine xk_load rfl (p := 5) rfl rfl ?_
  refine xk_ald rfl (p := 6) rfl (v := (0, t ((a + 2)) (r))) (xal0 h2 (by omega)) ?_
  refine xk_push rfl (p := 7) rfl ?_
  refine xk_icmp rfl (p := 10) rfl (fun c7 => ?_) (fun c7 => ?_)
  · replace c7 : (t ((a + 2)) (r)) = ((-1)) := c7
    refine xk_push rfl (p := 21) rfl ?_
    refine xk_goto rfl ?_
    exact (congrArg (fun z => xOk (d) 5 25 [(2, ((a : Nat) : Int)), (0, ((r : Nat) : Int)), (0, s), (3, 0)] [(0, z)] g t (xQ g t (some (0, xask (t a 4) (t (a + 2) r) (t (a + 3) r) s)))) (show (if t (a + 2) r = -1 ∨ t (a + 2) r = s then (1 : Int) else 0) = 1 from by first | exact if_pos (by omega) | exact if_neg (by omega))).mp jn25
  · replace c7 : ¬ (t ((a + 2)) (r)) = ((-1)) := c7
    refine xk_load rfl (p := 11) rfl rfl ?_
    refine xk_getf rfl (p := 14) rfl (xob h0 (by decide)) (v := (2, (((a + 2) : Nat) : Int))) (xsl2 rfl p1) ?_
    refine xk_load rfl (p := 15) rfl rfl ?_
    refine xk_ald rfl (p := 16) rfl (v := (0, t ((a + 2)) (r))) (xal0 h2 (by omega)) ?_
    refine xk_load rfl (p := 17) rfl rfl ?_
    refine xk_icmp rfl (p := 20) rfl (fun c17 => ?_) (fun c17 => ?_)
    · replace c17 : ¬ (t ((a + 2)) (r)) = (s) := c17
      refine xk_push rfl (p := 25) rfl ?_
      exact (congrArg (fun z => xOk (d) 5 25 [(2, ((a : Nat) : Int)), (0, ((r : Nat) : Int)), (0, s), (3, 0)] [(0, z)] g t (xQ g t (some (0, xask (t a 4) (t (a + 2) r) (t (a + 3) r) s)))) (show (if t (a + 2) r = -1 ∨ t (a + 2) r = s then (1 : Int) else 0) = 0 from by first | exact if_pos (by omega) | exact if_neg (by omega))).mp jn25
    · replace c17 : ¬ (¬ (t ((a + 2)) (r)) = (s)) := c17
      refine xk_push rfl (p := 21) rfl ?_
      refine xk_goto rfl ?_
      exact (congrArg (fun z => xOk (d) 5 25 [(2, ((a : Nat) : Int)), (0, ((r : Nat) : Int)), (0, s), (3, 0)] [(0, z)] g t (xQ g t (some (0, xask (t a 4) (t (a + 2) r) (t (a + 3) r) s)))) (show (if t (a + 2) r = -1 ∨ t (a + 2) r = s then (1 : Int) else 0) = 1 from by first | exact if_pos (by omega) | exact if_neg (by omega))).mp jn25

theorem m_namesIn {d a R : Nat} {g : xG} {t : xD} {b : Int} (hd : xDl g a) (hr : t a 3 = ((R : Nat) : Int)) (hR : R ≤ 4) (hn : ∀ i, i < R → 0 ≤ t (a + 1) i ∧ t (a + 1) i < 12) : xCall (d) 6 [(2, ((a : Nat) : Int)), (0, b)] g t (xQ g t (some (0, ((xors (fun i => if b = 0 ∨ ¬ t (a + 3) i = 0 then 2 ^ (t (a + 1) i).toNat else 0) R : Nat) : Int)))) := by
  show xOk (d) 6 0 [(2, ((a : Nat) : Int)), (0, b), (3, 0), (3, 0)] [] g t _
  obtain ⟨h0, h1, h2, h3, p0, p1, p2⟩ := hd
  refine xk_push rfl (p := 1) rfl ?_
  refine xk_store rfl (p := 2) rfl (by decide) (Nat.le_of_ble_eq_true rfl) (ls' := [(2, ((a : Nat) : Int)), (0, b), (0, 0), (3, 0)]) rfl ?_
  refine xk_push rfl (p := 3) rfl ?_
  refine xk_store rfl (p := 4) rfl (by decide) (Nat.le_of_ble_eq_true rfl) (ls' := [(2, ((a : Nat) : Int)), (0, b), (0, 0), (0, 0)]) rfl ?_
  have lp4 : ∀ k : Nat, k ≤ R → ∀ (z : Nat), (z = xors (fun i => if b = 0 ∨ ¬ t (a + 3) i = 0 then 2 ^ (t (a + 1) i).toNat else 0) k) → (z < 2 ^ 12) → xOk (d) 6 4 [(2, ((a : Nat) : Int)), (0, b), (0, ((z : Nat) : Int)), (0, ((k : Nat) : Int))] [] g t (xQ g t (some (0, ((xors (fun i => if b = 0 ∨ ¬ t (a + 3) i = 0 then 2 ^ (t (a + 1) i).toNat else 0) R : Nat) : Int)))) := by
    refine xk_up R (fun k hk ih4 z hi1 hi2 => ?_)
    have hnk := hn k
    refine xk_load rfl (p := 5) rfl rfl ?_
    refine xk_load rfl (p := 6) rfl rfl ?_
    refine xk_getf rfl (p := 9) rfl (xob h0 (by decide)) (v := (0, ((R : Nat) : Int))) (xsl0 rfl hr) ?_
    refine xk_icmp rfl (p := 12) rfl (fun c9 => ?_) (fun c9 => ?_)
    · replace c9 : (((R : Nat) : Int)) ≤ (((k : Nat) : Int)) := c9
      refine xk_load rfl (p := 43) rfl rfl ?_
      refine xk_rete rfl (rfl) ?_
      rw [hi1, show k = R by omega]
    · replace c9 : ¬ (((R : Nat) : Int)) ≤ (((k : Nat) : Int)) := c9
      refine xk_load rfl (p := 13) rfl rfl ?_
      refine xk_if rfl (p := 16) rfl (fun c13 => ?_) (fun c13 => ?_)
      · replace c13 : (b) = (0) := c13
        refine xk_load rfl (p := 26) rfl rfl ?_
        refine xk_push rfl (p := 27) rfl ?_
        refine xk_load rfl (p := 28) rfl rfl ?_
        refine xk_getf rfl (p := 31) rfl (xob h0 (by decide)) (v := (2, (((a + 1) : Nat) : Int))) (xsl2 rfl p0) ?_
        refine xk_load rfl (p := 32) rfl rfl ?_
        refine xk_ald rfl (p := 33) rfl (v := (0, t ((a + 1)) (k))) (xal0 h1 (by omega)) ?_
        refine xk_bin rfl (p := 34) rfl (z := ((2 ^ (t (a + 1) k).toNat : Nat) : Int)) (congrArg some (xshl_t (by omega) (by omega))) ?_
        refine xk_bin rfl (p := 35) rfl (z := ((z ||| 2 ^ (t (a + 1) k).toNat : Nat) : Int)) (congrArg some (xor_n (by omega) (Nat.pow_lt_pow_right (by decide) (by omega)))) ?_
        refine xk_store rfl (p := 36) rfl (by decide) (Nat.le_of_ble_eq_true rfl) (ls' := [(2, ((a : Nat) : Int)), (0, b), (0, ((z ||| 2 ^ (t (a + 1) k).toNat : Nat) : Int)), (0, ((k : Nat) : Int))]) rfl ?_
        refine xk_inc1 rfl (p := 39) rfl (n := k) rfl (by omega) (ls' := [(2, ((a : Nat) : Int)), (0, b), (0, ((z ||| 2 ^ (t (a + 1) k).toNat : Nat) : Int)), (0, ((k + 1 : Nat) : Int))]) rfl ?_
        refine xk_goto rfl ?_
        exact ih4 (by omega) (z ||| 2 ^ (t (a + 1) k).toNat) (by first | exact xors_in hi1 (if_pos (by omega)) | exact xors_out hi1 (if_neg (by omega))) (by first | exact Nat.or_lt_two_pow hi2 (Nat.pow_lt_pow_right (by decide) (by omega)) | exact hi2)
      · replace c13 : ¬ (b) = (0) := c13
        refine xk_load rfl (p := 17) rfl rfl ?_
        refine xk_getf rfl (p := 20) rfl (xob h0 (by decide)) (v := (2, (((a + 3) : Nat) : Int))) (xsl2 rfl p2) ?_
        refine xk_load rfl (p := 21) rfl rfl ?_
        refine xk_ald rfl (p := 22) rfl (v := (0, t ((a + 3)) (k))) (xal0 h3 (by omega)) ?_
        refine xk_if rfl (p := 25) rfl (fun c22 => ?_) (fun c22 => ?_)
        · replace c22 : (t ((a + 3)) (k)) = (0) := c22
          refine xk_inc1 rfl (p := 39) rfl (n := k) rfl (by omega) (ls' := [(2, ((a : Nat) : Int)), (0, b), (0, ((z : Nat) : Int)), (0, ((k + 1 : Nat) : Int))]) rfl ?_
          refine xk_goto rfl ?_
          exact ih4 (by omega) (z) (by first | exact xors_in hi1 (if_pos (by omega)) | exact xors_out hi1 (if_neg (by omega))) (by first | exact Nat.or_lt_two_pow hi2 (Nat.pow_lt_pow_right (by decide) (by omega)) | exact hi2)
        · replace c22 : ¬ (t ((a + 3)) (k)) = (0) := c22
          refine xk_load rfl (p := 26) rfl rfl ?_
          refine xk_push rfl (p := 27) rfl ?_
          refine xk_load rfl (p := 28) rfl rfl ?_
          refine xk_getf rfl (p := 31) rfl (xob h0 (by decide)) (v := (2, (((a + 1) : Nat) : Int))) (xsl2 rfl p0) ?_
          refine xk_load rfl (p := 32) rfl rfl ?_
          refine xk_ald rfl (p := 33) rfl (v := (0, t ((a + 1)) (k))) (xal0 h1 (by omega)) ?_
          refine xk_bin rfl (p := 34) rfl (z := ((2 ^ (t (a + 1) k).toNat : Nat) : Int)) (congrArg some (xshl_t (by omega) (by omega))) ?_
          refine xk_bin rfl (p := 35) rfl (z := ((z ||| 2 ^ (t (a + 1) k).toNat : Nat) : Int)) (congrArg some (xor_n (by omega) (Nat.pow_lt_pow_right (by decide) (by omega)))) ?_
          refine xk_store rfl (p := 36) rfl (by decide) (Nat.le_of_ble_eq_true rfl) (ls' := [(2, ((a : Nat) : Int)), (0, b), (0, ((z ||| 2 ^ (t (a + 1) k).toNat : Nat) : Int)), (0, ((k : Nat) : Int))]) rfl ?_
          refine xk_inc1 rfl (p := 39) rfl (n := k) rfl (by omega) (ls' := [(2, ((a : Nat) : Int)), (0, b), (0, ((z ||| 2 ^ (t (a + 1) k).toNat : Nat) : Int)), (0, ((k + 1 : Nat) : Int))]) rfl ?_
          refine xk_goto rfl ?_
          exact ih4 (by omega) (z ||| 2 ^ (t (a + 1) k).toNat) (by first | exact xors_in hi1 (if_pos (by omega)) | exact xors_out hi1 (if_neg (by omega))) (by first | exact Nat.or_lt_two_pow hi2 (Nat.pow_lt_pow_right (by decide) (by omega)) | exact hi2)
  exact lp4 (0) (by omega) (0) (by rfl) (by decide)

theorem m_dbecome {d a o : Nat} {g : xG} {t : xD} (hd : xDl g a) (ho2 : xDl g o) (ha : 2 ≤ a) (ho : 2 ≤ o) (hs : a + 3 < o ∨ o + 3 < a) : xCall (d + 1) 7 [(2, ((a : Nat) : Int)), (2, ((o : Nat) : Int))] g t (xQ g (xcpy (xcpy (xcpy (xupd (xupd (xupd t a 3 (t o 3)) a 4 (t o 4)) a 5 (t o 5)) (o + 1) 0 (a + 1) 0 4) (o + 2) 0 (a + 2) 0 4) (o + 3) 0 (a + 3) 0 4) none) := by
  show xOk (d + 1) 7 0 [(2, ((a : Nat) : Int)), (2, ((o : Nat) : Int))] [] g t _
  obtain ⟨h0, h1, h2, h3, p0, p1, p2⟩ := hd
  obtain ⟨q0, q1, q2, q3, r0, r1, r2⟩ := ho2
  refine xk_load rfl (p := 1) rfl rfl ?_
  refine xk_load rfl (p := 2) rfl rfl ?_
  refine xk_getf rfl (p := 5) rfl (xob q0 (by decide)) (v := (0, t (o) 3)) (rfl) ?_
  refine xk_putf rfl (p := 8) rfl (xob h0 (by decide)) rfl (by decide) (by decide) (fun h => absurd h (by decide)) (by omega) ?_
  refine xk_load rfl (p := 9) rfl rfl ?_
  refine xk_load rfl (p := 10) rfl rfl ?_
  refine xk_getf rfl (p := 13) rfl (xob q0 (by decide)) (v := (0, t (o) 4)) (xsl0 rfl ((xupd_ne (by omega)).trans rfl)) ?_
  refine xk_putf rfl (p := 16) rfl (xob h0 (by decide)) rfl (by decide) (by decide) (fun h => absurd h (by decide)) (by omega) ?_
  refine xk_load rfl (p := 17) rfl rfl ?_
  refine xk_load rfl (p := 18) rfl rfl ?_
  refine xk_getf rfl (p := 21) rfl (xob q0 (by decide)) (v := (0, t (o) 5)) (xsl0 rfl ((xupd_ne (by omega)).trans ((xupd_ne (by omega)).trans rfl))) ?_
  refine xk_putf rfl (p := 24) rfl (xob h0 (by decide)) rfl (by decide) (by decide) (fun h => absurd h (by decide)) (by omega) ?_
  refine xk_load rfl (p := 25) rfl rfl ?_
  refine xk_getf rfl (p := 28) rfl (xob q0 (by decide)) (v := (2, (((o + 1) : Nat) : Int))) (xsl2 rfl r0) ?_
  refine xk_push rfl (p := 29) rfl ?_
  refine xk_load rfl (p := 30) rfl rfl ?_
  refine xk_getf rfl (p := 33) rfl (xob h0 (by decide)) (v := (2, (((a + 1) : Nat) : Int))) (xsl2 rfl p0) ?_
  refine xk_push rfl (p := 34) rfl ?_
  refine xk_push rfl (p := 35) rfl ?_
  refine xk_cpy (n := 4) (dp := 0) (sp := 0) rfl (p := 38) rfl (Nat.le_of_ble_eq_true rfl) (by omega) (by omega) (by decide) h1 q1 (by omega) (by omega) (by omega) (by omega) ?_
  refine xk_load rfl (p := 39) rfl rfl ?_
  refine xk_getf rfl (p := 42) rfl (xob q0 (by decide)) (v := (2, (((o + 2) : Nat) : Int))) (xsl2 rfl r1) ?_
  refine xk_push rfl (p := 43) rfl ?_
  refine xk_load rfl (p := 44) rfl rfl ?_
  refine xk_getf rfl (p := 47) rfl (xob h0 (by decide)) (v := (2, (((a + 2) : Nat) : Int))) (xsl2 rfl p1) ?_
  refine xk_push rfl (p := 48) rfl ?_
  refine xk_push rfl (p := 49) rfl ?_
  refine xk_cpy (n := 4) (dp := 0) (sp := 0) rfl (p := 52) rfl (Nat.le_of_ble_eq_true rfl) (by omega) (by omega) (by decide) h2 q2 (by omega) (by omega) (by omega) (by omega) ?_
  refine xk_load rfl (p := 53) rfl rfl ?_
  refine xk_getf rfl (p := 56) rfl (xob q0 (by decide)) (v := (2, (((o + 3) : Nat) : Int))) (xsl2 rfl r2) ?_
  refine xk_push rfl (p := 57) rfl ?_
  refine xk_load rfl (p := 58) rfl rfl ?_
  refine xk_getf rfl (p := 61) rfl (xob h0 (by decide)) (v := (2, (((a + 3) : Nat) : Int))) (xsl2 rfl p2) ?_
  refine xk_push rfl (p := 62) rfl ?_
  refine xk_push rfl (p := 63) rfl ?_
  refine xk_cpy (n := 4) (dp := 0) (sp := 0) rfl (p := 66) rfl (Nat.le_of_ble_eq_true rfl) (by omega) (by omega) (by decide) h3 q3 (by omega) (by omega) (by omega) (by omega) ?_
  refine xk_ret rfl rfl ?_
  exact ⟨rfl, rfl, rfl⟩

theorem m_jbecome {d a o : Nat} {g : xG} {t : xD} (hd : xJr g a) (ho2 : xJr g o) (ha : 2 ≤ a) (ho : 2 ≤ o) (hs : a + 3 < o ∨ o + 3 < a) : xCall (d + 1) 13 [(2, ((a : Nat) : Int)), (2, ((o : Nat) : Int))] g t (xQ g (xcpy (xcpy (xcpy (xupd t a 3 (t o 3)) (o + 1) 0 (a + 1) 0 6) (o + 2) 0 (a + 2) 0 6) (o + 3) 0 (a + 3) 0 6) none) := by
  show xOk (d + 1) 13 0 [(2, ((a : Nat) : Int)), (2, ((o : Nat) : Int))] [] g t _
  obtain ⟨h0, h1, h2, h3, p0, p1, p2⟩ := hd
  obtain ⟨q0, q1, q2, q3, r0, r1, r2⟩ := ho2
  refine xk_load rfl (p := 1) rfl rfl ?_
  refine xk_load rfl (p := 2) rfl rfl ?_
  refine xk_getf rfl (p := 5) rfl (xob q0 (by decide)) (v := (0, t (o) 3)) (rfl) ?_
  refine xk_putf rfl (p := 8) rfl (xob h0 (by decide)) rfl (by decide) (by decide) (fun h => absurd h (by decide)) (by omega) ?_
  refine xk_load rfl (p := 9) rfl rfl ?_
  refine xk_getf rfl (p := 12) rfl (xob q0 (by decide)) (v := (2, (((o + 1) : Nat) : Int))) (xsl2 rfl r0) ?_
  refine xk_push rfl (p := 13) rfl ?_
  refine xk_load rfl (p := 14) rfl rfl ?_
  refine xk_getf rfl (p := 17) rfl (xob h0 (by decide)) (v := (2, (((a + 1) : Nat) : Int))) (xsl2 rfl p0) ?_
  refine xk_push rfl (p := 18) rfl ?_
  refine xk_push rfl (p := 20) rfl ?_
  refine xk_cpy (n := 6) (dp := 0) (sp := 0) rfl (p := 23) rfl (Nat.le_of_ble_eq_true rfl) (by omega) (by omega) (by decide) h1 q1 (by omega) (by omega) (by omega) (by omega) ?_
  refine xk_load rfl (p := 24) rfl rfl ?_
  refine xk_getf rfl (p := 27) rfl (xob q0 (by decide)) (v := (2, (((o + 2) : Nat) : Int))) (xsl2 rfl r1) ?_
  refine xk_push rfl (p := 28) rfl ?_
  refine xk_load rfl (p := 29) rfl rfl ?_
  refine xk_getf rfl (p := 32) rfl (xob h0 (by decide)) (v := (2, (((a + 2) : Nat) : Int))) (xsl2 rfl p1) ?_
  refine xk_push rfl (p := 33) rfl ?_
  refine xk_push rfl (p := 35) rfl ?_
  refine xk_cpy (n := 6) (dp := 0) (sp := 0) rfl (p := 38) rfl (Nat.le_of_ble_eq_true rfl) (by omega) (by omega) (by decide) h2 q2 (by omega) (by omega) (by omega) (by omega) ?_
  refine xk_load rfl (p := 39) rfl rfl ?_
  refine xk_getf rfl (p := 42) rfl (xob q0 (by decide)) (v := (2, (((o + 3) : Nat) : Int))) (xsl2 rfl r2) ?_
  refine xk_push rfl (p := 43) rfl ?_
  refine xk_load rfl (p := 44) rfl rfl ?_
  refine xk_getf rfl (p := 47) rfl (xob h0 (by decide)) (v := (2, (((a + 3) : Nat) : Int))) (xsl2 rfl p2) ?_
  refine xk_push rfl (p := 48) rfl ?_
  refine xk_push rfl (p := 50) rfl ?_
  refine xk_cpy (n := 6) (dp := 0) (sp := 0) rfl (p := 53) rfl (Nat.le_of_ble_eq_true rfl) (by omega) (by omega) (by decide) h3 q3 (by omega) (by omega) (by omega) (by omega) ?_
  refine xk_ret rfl rfl ?_
  exact ⟨rfl, rfl, rfl⟩

theorem m_pbecome {d a o : Nat} {g : xG} {t : xD} (hd : xPr g a) (ho2 : xPr g o) (ha : 2 ≤ a) (ho : 2 ≤ o) (hs : a + 3 < o ∨ o + 3 < a) : xCall (d + 1) 28 [(2, ((a : Nat) : Int)), (2, ((o : Nat) : Int))] g t (xQ g (xcpy (xcpy (xupd t a 3 (t o 3)) (o + 1) 0 (a + 1) 0 10) (o + 2) 0 (a + 2) 0 10) none) := by
  show xOk (d + 1) 28 0 [(2, ((a : Nat) : Int)), (2, ((o : Nat) : Int))] [] g t _
  obtain ⟨h0, h1, h2, p0, p1⟩ := hd
  obtain ⟨q0, q1, q2, r0, r1⟩ := ho2
  refine xk_load rfl (p := 1) rfl rfl ?_
  refine xk_load rfl (p := 2) rfl rfl ?_
  refine xk_getf rfl (p := 5) rfl (xob q0 (by decide)) (v := (0, t (o) 3)) (rfl) ?_
  refine xk_putf rfl (p := 8) rfl (xob h0 (by decide)) rfl (by decide) (by decide) (fun h => absurd h (by decide)) (by omega) ?_
  refine xk_load rfl (p := 9) rfl rfl ?_
  refine xk_getf rfl (p := 12) rfl (xob q0 (by decide)) (v := (2, (((o + 1) : Nat) : Int))) (xsl2 rfl r0) ?_
  refine xk_push rfl (p := 13) rfl ?_
  refine xk_load rfl (p := 14) rfl rfl ?_
  refine xk_getf rfl (p := 17) rfl (xob h0 (by decide)) (v := (2, (((a + 1) : Nat) : Int))) (xsl2 rfl p0) ?_
  refine xk_push rfl (p := 18) rfl ?_
  refine xk_push rfl (p := 20) rfl ?_
  refine xk_cpy (n := 10) (dp := 0) (sp := 0) rfl (p := 23) rfl (Nat.le_of_ble_eq_true rfl) (by omega) (by omega) (by decide) h1 q1 (by omega) (by omega) (by omega) (by omega) ?_
  refine xk_load rfl (p := 24) rfl rfl ?_
  refine xk_getf rfl (p := 27) rfl (xob q0 (by decide)) (v := (2, (((o + 2) : Nat) : Int))) (xsl2 rfl r1) ?_
  refine xk_push rfl (p := 28) rfl ?_
  refine xk_load rfl (p := 29) rfl rfl ?_
  refine xk_getf rfl (p := 32) rfl (xob h0 (by decide)) (v := (2, (((a + 2) : Nat) : Int))) (xsl2 rfl p1) ?_
  refine xk_push rfl (p := 33) rfl ?_
  refine xk_push rfl (p := 35) rfl ?_
  refine xk_cpy (n := 10) (dp := 0) (sp := 0) rfl (p := 38) rfl (Nat.le_of_ble_eq_true rfl) (by omega) (by omega) (by decide) h2 q2 (by omega) (by omega) (by omega) (by omega) ?_
  refine xk_ret rfl rfl ?_
  exact ⟨rfl, rfl, rfl⟩

theorem m_jdrop {d a S : Nat} {g : xG} {t : xD} {G : Nat} (hd : xJr g a) (hr : t a 3 = ((S : Nat) : Int)) (hS : S ≤ 6) (ha : 2 ≤ a) (hG : G ≤ S) : xCall (d) 11 [(2, ((a : Nat) : Int)), (0, ((G : Nat) : Int))] g t (xQ g (xupd (xdrp t a G (S - G)) a 3 ((S - G : Nat) : Int)) none) := by
  show xOk (d) 11 0 [(2, ((a : Nat) : Int)), (0, ((G : Nat) : Int)), (3, 0), (3, 0)] [] g t _
  obtain ⟨h0, h1, h2, h3, p0, p1, p2⟩ := hd
  refine xk_load rfl (p := 1) rfl rfl ?_
  refine xk_getf rfl (p := 4) rfl (xob h0 (by decide)) (v := (0, ((S : Nat) : Int))) (xsl0 rfl hr) ?_
  refine xk_load rfl (p := 5) rfl rfl ?_
  refine xk_bin rfl (p := 6) rfl (z := ((S - G : Nat) : Int)) (congrArg some (xsub_n (n := S) (m := G) (by omega) (by omega))) ?_
  refine xk_store rfl (p := 7) rfl (by decide) (Nat.le_of_ble_eq_true rfl) (ls' := [(2, ((a : Nat) : Int)), (0, ((G : Nat) : Int)), (0, ((S - G : Nat) : Int)), (3, 0)]) rfl ?_
  refine xk_push rfl (p := 8) rfl ?_
  refine xk_store rfl (p := 9) rfl (by decide) (Nat.le_of_ble_eq_true rfl) (ls' := [(2, ((a : Nat) : Int)), (0, ((G : Nat) : Int)), (0, ((S - G : Nat) : Int)), (0, 0)]) rfl ?_
  have lp9 : ∀ k : Nat, k ≤ (S - G) → ∀ (t1 : xD), (t1 = xdrp t a G k) → xOk (d) 11 9 [(2, ((a : Nat) : Int)), (0, ((G : Nat) : Int)), (0, ((S - G : Nat) : Int)), (0, ((k : Nat) : Int))] [] g t1 (xQ g (xupd (xdrp t a G (S - G)) a 3 ((S - G : Nat) : Int)) none) := by
    refine xk_up ((S - G)) (fun k hk ih9  t1 hi1 => ?_)
    subst hi1
    refine xk_load rfl (p := 10) rfl rfl ?_
    refine xk_load rfl (p := 11) rfl rfl ?_
    refine xk_icmp rfl (p := 14) rfl (fun c11 => ?_) (fun c11 => ?_)
    · replace c11 : (((S - G : Nat) : Int)) ≤ (((k : Nat) : Int)) := c11
      refine xk_load rfl (p := 63) rfl rfl ?_
      refine xk_load rfl (p := 64) rfl rfl ?_
      refine xk_putf rfl (p := 67) rfl (xob h0 (by decide)) rfl (by decide) (by decide) (fun h => absurd h (by decide)) (by omega) ?_
      refine xk_ret rfl rfl ?_
      rw [show k = S - G by omega]
      exact ⟨rfl, rfl, rfl⟩
    · replace c11 : ¬ (((S - G : Nat) : Int)) ≤ (((k : Nat) : Int)) := c11
      refine xk_load rfl (p := 15) rfl rfl ?_
      refine xk_getf rfl (p := 18) rfl (xob h0 (by decide)) (v := (2, (((a + 1) : Nat) : Int))) (xsl2 rfl p0) ?_
      refine xk_load rfl (p := 19) rfl rfl ?_
      refine xk_load rfl (p := 20) rfl rfl ?_
      refine xk_getf rfl (p := 23) rfl (xob h0 (by decide)) (v := (2, (((a + 1) : Nat) : Int))) (xsl2 rfl p0) ?_
      refine xk_load rfl (p := 24) rfl rfl ?_
      refine xk_load rfl (p := 25) rfl rfl ?_
      refine xk_bin rfl (p := 26) rfl (z := ((k + G : Nat) : Int)) (congrArg some (xadd_n (n := k) (m := G) (by omega))) ?_
      refine xk_ald rfl (p := 27) rfl (v := (0, t (a + 1) (k + G))) ((xal0 h1 (by omega)).trans (congrArg (fun z => some (0, z)) (xdrp_ge (by omega)))) ?_
      refine xk_ast rfl (p := 28) rfl (by decide) rfl (xsk h1) (xsn h1 (by omega)) (by omega) ?_
      refine xk_load rfl (p := 29) rfl rfl ?_
      refine xk_getf rfl (p := 32) rfl (xob h0 (by decide)) (v := (2, (((a + 2) : Nat) : Int))) (xsl2 rfl p1) ?_
      refine xk_load rfl (p := 33) rfl rfl ?_
      refine xk_load rfl (p := 34) rfl rfl ?_
      refine xk_getf rfl (p := 37) rfl (xob h0 (by decide)) (v := (2, (((a + 2) : Nat) : Int))) (xsl2 rfl p1) ?_
      refine xk_load rfl (p := 38) rfl rfl ?_
      refine xk_load rfl (p := 39) rfl rfl ?_
      refine xk_bin rfl (p := 40) rfl (z := ((k + G : Nat) : Int)) (congrArg some (xadd_n (n := k) (m := G) (by omega))) ?_
      refine xk_ald rfl (p := 41) rfl (v := (0, t (a + 2) (k + G))) ((xal0 h2 (by omega)).trans (congrArg (fun z => some (0, z)) ((xupd_ne (by omega)).trans (xdrp_ge (by omega))))) ?_
      refine xk_ast rfl (p := 42) rfl (by decide) rfl (xsk h2) (xsn h2 (by omega)) (by omega) ?_
      refine xk_load rfl (p := 43) rfl rfl ?_
      refine xk_getf rfl (p := 46) rfl (xob h0 (by decide)) (v := (2, (((a + 3) : Nat) : Int))) (xsl2 rfl p2) ?_
      refine xk_load rfl (p := 47) rfl rfl ?_
      refine xk_load rfl (p := 48) rfl rfl ?_
      refine xk_getf rfl (p := 51) rfl (xob h0 (by decide)) (v := (2, (((a + 3) : Nat) : Int))) (xsl2 rfl p2) ?_
      refine xk_load rfl (p := 52) rfl rfl ?_
      refine xk_load rfl (p := 53) rfl rfl ?_
      refine xk_bin rfl (p := 54) rfl (z := ((k + G : Nat) : Int)) (congrArg some (xadd_n (n := k) (m := G) (by omega))) ?_
      refine xk_ald rfl (p := 55) rfl (v := (0, t (a + 3) (k + G))) ((xal0 h3 (by omega)).trans (congrArg (fun z => some (0, z)) ((xupd_ne (by omega)).trans ((xupd_ne (by omega)).trans (xdrp_ge (by omega)))))) ?_
      refine xk_ast rfl (p := 56) rfl (by decide) rfl (xsk h3) (xsn h3 (by omega)) (by omega) ?_
      refine xk_inc1 rfl (p := 59) rfl (n := k) rfl (by omega) (ls' := [(2, ((a : Nat) : Int)), (0, ((G : Nat) : Int)), (0, ((S - G : Nat) : Int)), (0, ((k + 1 : Nat) : Int))]) rfl ?_
      refine xk_goto rfl ?_
      exact ih9 (by omega)  (xupd (xupd (xupd ((xdrp t a G k)) ((a + 1)) (k) (t (a + 1) (k + G))) ((a + 2)) (k) (t (a + 2) (k + G))) ((a + 3)) (k) (t (a + 3) (k + G))) (by exact xdrp_up)
  exact lp9 (0) (by omega)  (t) (by exact xdrp_0.symm)

theorem m_jcut {d a S : Nat} {g : xG} {t : xD} {x : Int} (hd : xJr g a) (hr : t a 3 = ((S : Nat) : Int)) (hS : S ≤ 6) (ha : 2 ≤ a) : xCall (d + 1) 10 [(2, ((a : Nat) : Int)), (0, x)] g t (fun r g' t' => ∃ G, G = xfst (fun i => decide (x ≤ t (a + 1) i)) S ∧ G ≤ S ∧ r = some (0, ((G : Nat) : Int)) ∧ g' = g ∧ t' = xupd (xdrp t a G (S - G)) a 3 ((S - G : Nat) : Int)) := by
  show xOk (d + 1) 10 0 [(2, ((a : Nat) : Int)), (0, x), (3, 0)] [] g t _
  have hd0 := hd
  obtain ⟨h0, h1, h2, h3, p0, p1, p2⟩ := hd
  refine xk_push rfl (p := 1) rfl ?_
  refine xk_store rfl (p := 2) rfl (by decide) (Nat.le_of_ble_eq_true rfl) (ls' := [(2, ((a : Nat) : Int)), (0, x), (0, 0)]) rfl ?_
  have lp2 : ∀ k : Nat, k ≤ S → (∀ i, i < k → ¬ x ≤ t (a + 1) i) → xOk (d + 1) 10 2 [(2, ((a : Nat) : Int)), (0, x), (0, ((k : Nat) : Int))] [] g t (fun r g' t' => ∃ G, G = xfst (fun i => decide (x ≤ t (a + 1) i)) S ∧ G ≤ S ∧ r = some (0, ((G : Nat) : Int)) ∧ g' = g ∧ t' = xupd (xdrp t a G (S - G)) a 3 ((S - G : Nat) : Int)) := by
    refine xk_up S (fun k hk ih2  hi1 => ?_)
    refine xk_load rfl (p := 3) rfl rfl ?_
    refine xk_load rfl (p := 4) rfl rfl ?_
    refine xk_getf rfl (p := 7) rfl (xob h0 (by decide)) (v := (0, ((S : Nat) : Int))) (xsl0 rfl hr) ?_
    refine xk_icmp rfl (p := 10) rfl (fun c7 => ?_) (fun c7 => ?_)
    · replace c7 : (((S : Nat) : Int)) ≤ (((k : Nat) : Int)) := c7
      refine xk_load rfl (p := 27) rfl rfl ?_
      refine xk_load rfl (p := 28) rfl rfl ?_
      refine xk_call rfl (p := 31) rfl (by decide) rfl (Nat.le_of_ble_eq_true rfl) (Nat.le_of_ble_eq_true rfl) (xrv h0 (by decide)) (as := [(2, ((a : Nat) : Int)), (0, ((k : Nat) : Int))]) (r := []) rfl (m_jdrop hd0 hr hS ha (G := k) (by omega)) ?_
      rintro v g1 t1 ⟨rfl, rfl, rfl⟩
      refine xk_load rfl (p := 32) rfl rfl ?_
      refine xk_ret rfl rfl ?_
      exact ⟨k, (xfst_eq (by omega) (fun i h => decide_eq_false (hi1 i h)) (fun h => decide_eq_true (by omega))).symm, by omega, rfl, rfl, rfl⟩
    · replace c7 : ¬ (((S : Nat) : Int)) ≤ (((k : Nat) : Int)) := c7
      refine xk_load rfl (p := 11) rfl rfl ?_
      refine xk_getf rfl (p := 14) rfl (xob h0 (by decide)) (v := (2, (((a + 1) : Nat) : Int))) (xsl2 rfl p0) ?_
      refine xk_load rfl (p := 15) rfl rfl ?_
      refine xk_ald rfl (p := 16) rfl (v := (0, t ((a + 1)) (k))) (xal0 h1 (by omega)) ?_
      refine xk_load rfl (p := 17) rfl rfl ?_
      refine xk_icmp rfl (p := 20) rfl (fun c17 => ?_) (fun c17 => ?_)
      · replace c17 : (x) ≤ (t ((a + 1)) (k)) := c17
        refine xk_load rfl (p := 27) rfl rfl ?_
        refine xk_load rfl (p := 28) rfl rfl ?_
        refine xk_call rfl (p := 31) rfl (by decide) rfl (Nat.le_of_ble_eq_true rfl) (Nat.le_of_ble_eq_true rfl) (xrv h0 (by decide)) (as := [(2, ((a : Nat) : Int)), (0, ((k : Nat) : Int))]) (r := []) rfl (m_jdrop hd0 hr hS ha (G := k) (by omega)) ?_
        rintro v g1 t1 ⟨rfl, rfl, rfl⟩
        refine xk_load rfl (p := 32) rfl rfl ?_
        refine xk_ret rfl rfl ?_
        exact ⟨k, (xfst_eq (by omega) (fun i h => decide_eq_false (hi1 i h)) (fun h => decide_eq_true (by omega))).symm, by omega, rfl, rfl, rfl⟩
      · replace c17 : ¬ (x) ≤ (t ((a + 1)) (k)) := c17
        refine xk_inc1 rfl (p := 23) rfl (n := k) rfl (by omega) (ls' := [(2, ((a : Nat) : Int)), (0, x), (0, ((k + 1 : Nat) : Int))]) rfl ?_
        refine xk_goto rfl ?_
        exact ih2 (by omega)  (by exact xall_up hi1 c17)
  exact lp2 (0) (by omega)  (by intro i h; omega)
