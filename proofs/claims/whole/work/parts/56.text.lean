/-! THE CLASS: ITS TEXT -/
theorem c_fault {d : Nat} {g : xG} {t m : xD} (L : xLay g) (hT : TX t m) (hX : MX m) : xCall (d) 65 [(2, ((3 : Nat) : Int))] g t (xQ g t (some (0, sFau m))) := by
  show xOk (d) 65 0 [(2, ((3 : Nat) : Int)), (3, 0), (3, 0), (3, 0), (3, 0)] [] g t _
  have iTn_ := iTn hX
  refine xk_push rfl (p := 1) rfl ?_
  refine xk_store rfl (p := 2) rfl (by decide) (Nat.le_of_ble_eq_true rfl) (ls' := [(2, ((3 : Nat) : Int)), (0, 1), (3, 0), (3, 0), (3, 0)]) rfl ?_
  refine xk_push rfl (p := 3) rfl ?_
  refine xk_store rfl (p := 4) rfl (by decide) (Nat.le_of_ble_eq_true rfl) (ls' := [(2, ((3 : Nat) : Int)), (0, 1), (0, 0), (3, 0), (3, 0)]) rfl ?_
  refine xk_push rfl (p := 5) rfl ?_
  refine xk_store rfl (p := 6) rfl (by decide) (Nat.le_of_ble_eq_true rfl) (ls' := [(2, ((3 : Nat) : Int)), (0, 1), (0, 0), (0, 0), (3, 0)]) rfl ?_
  have lp1 : ∀ k : Nat, k ≤ nT m → ∀ (p : Nat) (l : Nat) (w4 : xV), (∀ i, i < k → ¬ fB m i = true) → (p = (fS m k).1) → (l = (fS m k).2) → xOk (d) 65 6 [(2, ((3 : Nat) : Int)), (0, ((p : Nat) : Int)), (0, ((l : Nat) : Int)), (0, ((k : Nat) : Int)), w4] [] g t (xQ g t (some (0, sFau m))) := by
    refine xk_up (nT m) (fun k hkk ih1 p l w4 hi1 hi2 hi3 => ?_)
    have fo_ := fS_ok k hi1
    refine xk_load rfl (p := 7) rfl rfl ?_
    refine xk_load rfl (p := 8) rfl rfl ?_
    refine xk_getf rfl (p := 11) rfl (xob ((ly_tx L).1) (by decide)) (v := (0, ((nT m : Nat) : Int))) (xsl0 rfl (hT.1.trans (iTn hX).1)) ?_
    have iTn_ := iTn hX
    refine xk_icmp rfl (p := 14) rfl (fun c11_2 => ?_) (fun c11_2 => ?_)
    · replace c11_2 : ((nT m : Nat) : Int) ≤ ((k : Nat) : Int) := c11_2
      refine xk_load rfl (p := 80) rfl rfl ?_
      refine xk_if rfl (p := 83) rfl (fun c80_3 => ?_) (fun c80_3 => ?_)
      · replace c80_3 : ((l : Nat) : Int) ≤ 0 := c80_3
        refine xk_load rfl (p := 88) rfl rfl ?_
        refine xk_getf rfl (p := 91) rfl (xob ((ly_tx L).1) (by decide)) (v := (0, ((nT m : Nat) : Int))) (xsl0 rfl (hT.1.trans (iTn hX).1)) ?_
        have iTn_ := iTn hX
        refine xk_rete rfl (rfl) ?_
        have ek : k = nT m := by omega
        subst ek
        rw [sFau_0 hi1]
        first | exact (if_pos (by omega)).symm | exact (if_neg (by omega)).symm
      · replace c80_3 : ¬ (((l : Nat) : Int) ≤ 0) := c80_3
        refine xk_push rfl (p := 84) rfl ?_
        refine xk_goto rfl ?_
        refine xk_rete rfl (rfl) ?_
        have ek : k = nT m := by omega
        subst ek
        rw [sFau_0 hi1]
        first | exact (if_pos (by omega)).symm | exact (if_neg (by omega)).symm
    · replace c11_2 : ¬ (((nT m : Nat) : Int) ≤ ((k : Nat) : Int)) := c11_2
      refine xk_load rfl (p := 15) rfl rfl ?_
      refine xk_getf rfl (p := 18) rfl (xob ((ly_tx L).1) (by decide)) (v := (2, ((4 : Nat) : Int))) (xsl2 rfl ((ly_tx L).2.2)) ?_
      refine xk_load rfl (p := 19) rfl rfl ?_
      refine xk_ald rfl (p := 20) rfl (v := (0, m 305 k)) ((xalb ((ly_tx L).2.1) (show k < 100 by omega)).trans (congrArg (fun z => some (0, z)) (hT.2 k (by omega)))) ?_
      have iX_ := hX.2.2 k (by omega)
      refine xk_store rfl (p := 22) rfl (by decide) (Nat.le_of_ble_eq_true rfl) (ls' := [(2, ((3 : Nat) : Int)), (0, ((p : Nat) : Int)), (0, ((l : Nat) : Int)), (0, ((k : Nat) : Int)), (0, m 305 k)]) rfl ?_
      refine xk_load rfl (p := 24) rfl rfl ?_
      refine xk_push rfl (p := 26) rfl ?_
      refine xk_icmp rfl (p := 29) rfl (fun c26_4 => ?_) (fun c26_4 => ?_)
      · replace c26_4 : m 305 k < 97 := c26_4
        refine xk_load rfl (p := 49) rfl rfl ?_
        refine xk_push rfl (p := 51) rfl ?_
        refine xk_icmp rfl (p := 54) rfl (fun c51_5 => ?_) (fun c51_5 => ?_)
        · replace c51_5 : ¬ (m 305 k = 47) := c51_5
          refine xk_load rfl (p := 72) rfl rfl ?_
          refine xk_rete rfl (rfl) ?_
          exact (sFau_1 (by omega) hi1 (decide_eq_true (by omega))).symm
        · replace c51_5 : m 305 k = 47 := Decidable.not_not.mp c51_5
          refine xk_load rfl (p := 55) rfl rfl ?_
          refine xk_if rfl (p := 58) rfl (fun c55_6 => ?_) (fun c55_6 => ?_)
          · replace c55_6 : ((l : Nat) : Int) ≤ 0 := c55_6
            refine xk_load rfl (p := 72) rfl rfl ?_
            refine xk_rete rfl (rfl) ?_
            exact (sFau_1 (by omega) hi1 (decide_eq_true (by omega))).symm
          · replace c55_6 : ¬ (((l : Nat) : Int) ≤ 0) := c55_6
            refine xk_load rfl (p := 59) rfl rfl ?_
            refine xk_push rfl (p := 60) rfl ?_
            refine xk_icmp rfl (p := 63) rfl (fun c60_7 => ?_) (fun c60_7 => ?_)
            · replace c60_7 : 3 ≤ ((p : Nat) : Int) := c60_7
              refine xk_load rfl (p := 72) rfl rfl ?_
              refine xk_rete rfl (rfl) ?_
              exact (sFau_1 (by omega) hi1 (decide_eq_true (by omega))).symm
            · replace c60_7 : ¬ (3 ≤ ((p : Nat) : Int)) := c60_7
              refine xk_inc1 rfl (p := 66) rfl (n := p) rfl (by omega) (ls' := [(2, ((3 : Nat) : Int)), (0, ((p + 1 : Nat) : Int)), (0, ((l : Nat) : Int)), (0, ((k : Nat) : Int)), (0, m 305 k)]) rfl ?_
              refine xk_push rfl (p := 67) rfl ?_
              refine xk_store rfl (p := 68) rfl (by decide) (Nat.le_of_ble_eq_true rfl) (ls' := [(2, ((3 : Nat) : Int)), (0, ((p + 1 : Nat) : Int)), (0, 0), (0, ((k : Nat) : Int)), (0, m 305 k)]) rfl ?_
              refine xk_goto rfl ?_
              refine xk_inc1 rfl (p := 76) rfl (n := k) rfl (by omega) (ls' := [(2, ((3 : Nat) : Int)), (0, ((p + 1 : Nat) : Int)), (0, 0), (0, ((k + 1 : Nat) : Int)), (0, m 305 k)]) rfl ?_
              refine xk_goto rfl ?_
              exact ih1 (by omega) (p + 1) 0 (0, m 305 k) (by exact xall_up hi1 (fun h => by have h := of_decide_eq_true h; omega)) (by first | (rw [fS_p (by omega)]; exact congrArg (· + 1) hi2) | (rw [fS_l (by omega)]; exact hi2)) (by first | (rw [fS_p (by omega)]; done) | (rw [fS_l (by omega)]; exact congrArg (· + 1) hi3))
      · replace c26_4 : ¬ (m 305 k < 97) := c26_4
        refine xk_load rfl (p := 31) rfl rfl ?_
        refine xk_push rfl (p := 33) rfl ?_
        refine xk_icmp rfl (p := 36) rfl (fun c33_8 => ?_) (fun c33_8 => ?_)
        · replace c33_8 : 102 < m 305 k := c33_8
          refine xk_load rfl (p := 49) rfl rfl ?_
          refine xk_push rfl (p := 51) rfl ?_
          refine xk_icmp rfl (p := 54) rfl (fun c51_9 => ?_) (fun c51_9 => ?_)
          · replace c51_9 : ¬ (m 305 k = 47) := c51_9
            refine xk_load rfl (p := 72) rfl rfl ?_
            refine xk_rete rfl (rfl) ?_
            exact (sFau_1 (by omega) hi1 (decide_eq_true (by omega))).symm
          · replace c51_9 : m 305 k = 47 := Decidable.not_not.mp c51_9
            refine xk_load rfl (p := 55) rfl rfl ?_
            refine xk_if rfl (p := 58) rfl (fun c55_10 => ?_) (fun c55_10 => ?_)
            · replace c55_10 : ((l : Nat) : Int) ≤ 0 := c55_10
              refine xk_load rfl (p := 72) rfl rfl ?_
              refine xk_rete rfl (rfl) ?_
              exact (sFau_1 (by omega) hi1 (decide_eq_true (by omega))).symm
            · replace c55_10 : ¬ (((l : Nat) : Int) ≤ 0) := c55_10
              refine xk_load rfl (p := 59) rfl rfl ?_
              refine xk_push rfl (p := 60) rfl ?_
              refine xk_icmp rfl (p := 63) rfl (fun c60_11 => ?_) (fun c60_11 => ?_)
              · replace c60_11 : 3 ≤ ((p : Nat) : Int) := c60_11
                refine xk_load rfl (p := 72) rfl rfl ?_
                refine xk_rete rfl (rfl) ?_
                exact (sFau_1 (by omega) hi1 (decide_eq_true (by omega))).symm
              · replace c60_11 : ¬ (3 ≤ ((p : Nat) : Int)) := c60_11
                refine xk_inc1 rfl (p := 66) rfl (n := p) rfl (by omega) (ls' := [(2, ((3 : Nat) : Int)), (0, ((p + 1 : Nat) : Int)), (0, ((l : Nat) : Int)), (0, ((k : Nat) : Int)), (0, m 305 k)]) rfl ?_
                refine xk_push rfl (p := 67) rfl ?_
                refine xk_store rfl (p := 68) rfl (by decide) (Nat.le_of_ble_eq_true rfl) (ls' := [(2, ((3 : Nat) : Int)), (0, ((p + 1 : Nat) : Int)), (0, 0), (0, ((k : Nat) : Int)), (0, m 305 k)]) rfl ?_
                refine xk_goto rfl ?_
                refine xk_inc1 rfl (p := 76) rfl (n := k) rfl (by omega) (ls' := [(2, ((3 : Nat) : Int)), (0, ((p + 1 : Nat) : Int)), (0, 0), (0, ((k + 1 : Nat) : Int)), (0, m 305 k)]) rfl ?_
                refine xk_goto rfl ?_
                exact ih1 (by omega) (p + 1) 0 (0, m 305 k) (by exact xall_up hi1 (fun h => by have h := of_decide_eq_true h; omega)) (by first | (rw [fS_p (by omega)]; exact congrArg (· + 1) hi2) | (rw [fS_l (by omega)]; exact hi2)) (by first | (rw [fS_p (by omega)]; done) | (rw [fS_l (by omega)]; exact congrArg (· + 1) hi3))
        · replace c33_8 : ¬ (102 < m 305 k) := c33_8
          refine xk_load rfl (p := 37) rfl rfl ?_
          refine xk_push rfl (p := 38) rfl ?_
          refine xk_icmp rfl (p := 41) rfl (fun c38_12 => ?_) (fun c38_12 => ?_)
          · replace c38_12 : 2 ≤ ((l : Nat) : Int) := c38_12
            refine xk_load rfl (p := 49) rfl rfl ?_
            refine xk_push rfl (p := 51) rfl ?_
            refine xk_icmp rfl (p := 54) rfl (fun c51_13 => ?_) (fun c51_13 => ?_)
            · replace c51_13 : ¬ (m 305 k = 47) := c51_13
              refine xk_load rfl (p := 72) rfl rfl ?_
              refine xk_rete rfl (rfl) ?_
              exact (sFau_1 (by omega) hi1 (decide_eq_true (by omega))).symm
            · replace c51_13 : m 305 k = 47 := Decidable.not_not.mp c51_13
              refine xk_load rfl (p := 55) rfl rfl ?_
              refine xk_if rfl (p := 58) rfl (fun c55_14 => ?_) (fun c55_14 => ?_)
              · replace c55_14 : ((l : Nat) : Int) ≤ 0 := c55_14
                refine xk_load rfl (p := 72) rfl rfl ?_
                refine xk_rete rfl (rfl) ?_
                exact (sFau_1 (by omega) hi1 (decide_eq_true (by omega))).symm
              · replace c55_14 : ¬ (((l : Nat) : Int) ≤ 0) := c55_14
                refine xk_load rfl (p := 59) rfl rfl ?_
                refine xk_push rfl (p := 60) rfl ?_
                refine xk_icmp rfl (p := 63) rfl (fun c60_15 => ?_) (fun c60_15 => ?_)
                · replace c60_15 : 3 ≤ ((p : Nat) : Int) := c60_15
                  refine xk_load rfl (p := 72) rfl rfl ?_
                  refine xk_rete rfl (rfl) ?_
                  exact (sFau_1 (by omega) hi1 (decide_eq_true (by omega))).symm
                · replace c60_15 : ¬ (3 ≤ ((p : Nat) : Int)) := c60_15
                  refine xk_inc1 rfl (p := 66) rfl (n := p) rfl (by omega) (ls' := [(2, ((3 : Nat) : Int)), (0, ((p + 1 : Nat) : Int)), (0, ((l : Nat) : Int)), (0, ((k : Nat) : Int)), (0, m 305 k)]) rfl ?_
                  refine xk_push rfl (p := 67) rfl ?_
                  refine xk_store rfl (p := 68) rfl (by decide) (Nat.le_of_ble_eq_true rfl) (ls' := [(2, ((3 : Nat) : Int)), (0, ((p + 1 : Nat) : Int)), (0, 0), (0, ((k : Nat) : Int)), (0, m 305 k)]) rfl ?_
                  refine xk_goto rfl ?_
                  refine xk_inc1 rfl (p := 76) rfl (n := k) rfl (by omega) (ls' := [(2, ((3 : Nat) : Int)), (0, ((p + 1 : Nat) : Int)), (0, 0), (0, ((k + 1 : Nat) : Int)), (0, m 305 k)]) rfl ?_
                  refine xk_goto rfl ?_
                  exact ih1 (by omega) (p + 1) 0 (0, m 305 k) (by exact xall_up hi1 (fun h => by have h := of_decide_eq_true h; omega)) (by first | (rw [fS_p (by omega)]; exact congrArg (· + 1) hi2) | (rw [fS_l (by omega)]; exact hi2)) (by first | (rw [fS_p (by omega)]; done) | (rw [fS_l (by omega)]; exact congrArg (· + 1) hi3))
          · replace c38_12 : ¬ (2 ≤ ((l : Nat) : Int)) := c38_12
            refine xk_inc1 rfl (p := 44) rfl (n := l) rfl (by omega) (ls' := [(2, ((3 : Nat) : Int)), (0, ((p : Nat) : Int)), (0, ((l + 1 : Nat) : Int)), (0, ((k : Nat) : Int)), (0, m 305 k)]) rfl ?_
            refine xk_goto rfl ?_
            refine xk_inc1 rfl (p := 76) rfl (n := k) rfl (by omega) (ls' := [(2, ((3 : Nat) : Int)), (0, ((p : Nat) : Int)), (0, ((l + 1 : Nat) : Int)), (0, ((k + 1 : Nat) : Int)), (0, m 305 k)]) rfl ?_
            refine xk_goto rfl ?_
            exact ih1 (by omega) p (l + 1) (0, m 305 k) (by exact xall_up hi1 (fun h => by have h := of_decide_eq_true h; omega)) (by first | (rw [fS_p (by omega)]; exact congrArg (· + 1) hi2) | (rw [fS_l (by omega)]; exact hi2)) (by first | (rw [fS_p (by omega)]; done) | (rw [fS_l (by omega)]; exact congrArg (· + 1) hi3))
  exact lp1 0 (by omega) 1 0 (3, 0) (by intro i h; omega) (by rfl) (by rfl)

/-- the text's digits, and its key -/
def tD (m : xD) (i : Nat) : Int := if ((i : Nat) : Int) < m 292 17 then m 305 i else 0
def tP (m : xD) : Nat → Int
  | 0 => 0
  | i + 1 => tP m i * 256 + tD m i
theorem tD_rng {m : xD} (h : MX m) (i : Nat) : 0 ≤ tD m i ∧ tD m i ≤ 127 := by
  unfold tD
  split
  · exact h.2.2 i (by assumption)
  · omega
theorem tP_0le {m : xD} (h : MX m) : ∀ i, 0 ≤ tP m i
  | 0 => Int.le_refl 0
  | i + 1 => by
    have := tP_0le h i
    have := tD_rng h i
    show 0 ≤ tP m i * 256 + tD m i
    omega
theorem tP_bd {m : xD} (h : MX m) : ∀ i, tP m (i + 1) < 128 * (256 ^ i : Nat)
  | 0 => by
    have := tD_rng h 0
    show (0 : Int) * 256 + tD m 0 < 128 * ((256 ^ 0 : Nat) : Int)
    rw [Nat.pow_zero]
    omega
  | i + 1 => by
    have := tP_bd h i
    have := tD_rng h (i + 1)
    show tP m (i + 1) * 256 + tD m (i + 1) < 128 * ((256 ^ (i + 1) : Nat) : Int)
    rw [Nat.pow_succ]
    omega
theorem tP_7 {m : xD} (h : MX m) {k : Nat} (hk : k ≤ 7) : tP m k < 36028797018963968 := by
  cases k with
  | zero =>
    show (0 : Int) < _
    decide
  | succ j =>
    have := tP_bd h j
    have e : (256 ^ j : Nat) ≤ 256 ^ 6 := Nat.pow_le_pow_right (by decide) (by omega)
    have : (256 ^ 6 : Nat) = 281474976710656 := by decide
    omega
theorem tP_sh {m : xD} (h : MX m) {k : Nat} (hk : k ≤ 7) : xlshl (tP m k) 8 = tP m k * 256 := by
  have a := tP_0le h k
  have b := tP_7 h hk
  have e : tP m k = (((tP m k).toNat : Nat) : Int) := by omega
  rw [e, xlshl_8 (by omega)]
  omega
theorem tP_or {m : xD} (h : MX m) {k : Nat} (hk : k ≤ 7) {b : Int} (h0 : 0 ≤ b) (h1 : b ≤ 127) : xlor (tP m k * 256) b = tP m k * 256 + b := by
  have a := tP_0le h k
  have c := tP_7 h hk
  have e : tP m k * 256 = (((tP m k).toNat * 256 : Nat) : Int) := by omega
  have e2 : b = ((b.toNat : Nat) : Int) := by omega
  rw [e, e2, xlor_n (by omega) (by omega), or_dig (by omega)]
  omega
theorem c_key {d : Nat} {g : xG} {t m : xD} (L : xLay g) (hT : TX t m) (hX : MX m) : xCall (d) 66 [(2, ((3 : Nat) : Int))] g t (xQ g t (some (1, tP m 8))) := by
  show xOk (d) 66 0 [(2, ((3 : Nat) : Int)), (3, 0), (3, 0), (3, 0)] [] g t _
  have iTn_ := iTn hX
  refine xk_push rfl (p := 1) rfl ?_
  refine xk_storel rfl (p := 2) rfl (Nat.le_of_ble_eq_true rfl) (ls' := [(2, ((3 : Nat) : Int)), (1, 0), (3, 0), (3, 0)]) rfl ?_
  refine xk_push rfl (p := 3) rfl ?_
  refine xk_store rfl (p := 4) rfl (by decide) (Nat.le_of_ble_eq_true rfl) (ls' := [(2, ((3 : Nat) : Int)), (1, 0), (3, 0), (0, 0)]) rfl ?_
  have lp1 : ∀ k : Nat, k ≤ 8 → ∀ (z : Int), (z = tP m k) → xOk (d) 66 4 [(2, ((3 : Nat) : Int)), (1, z), (3, 0), (0, ((k : Nat) : Int))] [] g t (xQ g t (some (1, tP m 8))) := by
    refine xk_up 8 (fun k hkk ih1 z hi1 => ?_)
    refine xk_load rfl (p := 5) rfl rfl ?_
    refine xk_push rfl (p := 7) rfl ?_
    refine xk_icmp rfl (p := 10) rfl (fun c7_2 => ?_) (fun c7_2 => ?_)
    · replace c7_2 : 8 ≤ ((k : Nat) : Int) := c7_2
      refine xk_load rfl (p := 42) rfl rfl ?_
      refine xk_rete rfl (rfl) ?_
      rw [hi1, show k = 8 by omega]
    · replace c7_2 : ¬ (8 ≤ ((k : Nat) : Int)) := c7_2
      refine xk_load rfl (p := 11) rfl rfl ?_
      refine xk_push rfl (p := 13) rfl ?_
      refine xk_lbin rfl (p := 14) rfl rfl (w := (1, (z * 256))) (congrArg (fun z => some ((1, z) : xV)) (by rw [hi1]; exact tP_sh hX (by omega))) ?_
      refine xk_load rfl (p := 15) rfl rfl ?_
      refine xk_load rfl (p := 16) rfl rfl ?_
      refine xk_getf rfl (p := 19) rfl (xob ((ly_tx L).1) (by decide)) (v := (0, ((nT m : Nat) : Int))) (xsl0 rfl (hT.1.trans (iTn hX).1)) ?_
      have iTn_ := iTn hX
      refine xk_icmp rfl (p := 22) rfl (fun c19_3 => ?_) (fun c19_3 => ?_)
      · replace c19_3 : ((nT m : Nat) : Int) ≤ ((k : Nat) : Int) := c19_3
        refine xk_push rfl (p := 32) rfl ?_
        refine xk_un rfl (p := 33) rfl (w := (1, 0)) (rfl) ?_
        refine xk_lbin rfl (p := 34) rfl rfl (w := (1, ((z * 256) + 0))) (congrArg (fun z => some ((1, z) : xV)) (by rw [hi1]; exact tP_or hX (by omega) (by omega) (by omega))) ?_
        refine xk_storel rfl (p := 35) rfl (Nat.le_of_ble_eq_true rfl) (ls' := [(2, ((3 : Nat) : Int)), (1, ((z * 256) + 0)), (3, 0), (0, ((k : Nat) : Int))]) rfl ?_
        refine xk_inc1 rfl (p := 38) rfl (n := k) rfl (by omega) (ls' := [(2, ((3 : Nat) : Int)), (1, ((z * 256) + 0)), (3, 0), (0, ((k + 1 : Nat) : Int))]) rfl ?_
        refine xk_goto rfl ?_
        exact ih1 (by omega) ((z * 256) + 0) (by rw [hi1]; show _ = tP m k * 256 + (if ((k : Nat) : Int) < m 292 17 then m 305 k else 0); first | rw [if_pos (by omega)] | rw [if_neg (by omega)])
      · replace c19_3 : ¬ (((nT m : Nat) : Int) ≤ ((k : Nat) : Int)) := c19_3
        refine xk_load rfl (p := 23) rfl rfl ?_
        refine xk_getf rfl (p := 26) rfl (xob ((ly_tx L).1) (by decide)) (v := (2, ((4 : Nat) : Int))) (xsl2 rfl ((ly_tx L).2.2)) ?_
        refine xk_load rfl (p := 27) rfl rfl ?_
        refine xk_ald rfl (p := 28) rfl (v := (0, m 305 k)) ((xalb ((ly_tx L).2.1) (show k < 100 by omega)).trans (congrArg (fun z => some (0, z)) (hT.2 k (by omega)))) ?_
        have iX_ := hX.2.2 k (by omega)
        refine xk_goto rfl ?_
        refine xk_un rfl (p := 33) rfl (w := (1, m 305 k)) (rfl) ?_
        refine xk_lbin rfl (p := 34) rfl rfl (w := (1, ((z * 256) + m 305 k))) (congrArg (fun z => some ((1, z) : xV)) (by rw [hi1]; exact tP_or hX (by omega) (by omega) (by omega))) ?_
        refine xk_storel rfl (p := 35) rfl (Nat.le_of_ble_eq_true rfl) (ls' := [(2, ((3 : Nat) : Int)), (1, ((z * 256) + m 305 k)), (3, 0), (0, ((k : Nat) : Int))]) rfl ?_
        refine xk_inc1 rfl (p := 38) rfl (n := k) rfl (by omega) (ls' := [(2, ((3 : Nat) : Int)), (1, ((z * 256) + m 305 k)), (3, 0), (0, ((k + 1 : Nat) : Int))]) rfl ?_
        refine xk_goto rfl ?_
        exact ih1 (by omega) ((z * 256) + m 305 k) (by rw [hi1]; show _ = tP m k * 256 + (if ((k : Nat) : Int) < m 292 17 then m 305 k else 0); first | rw [if_pos (by omega)] | rw [if_neg (by omega)])
  exact lp1 0 (by omega) 0 (by rfl)

theorem sSl_in {m : xD} {k : Nat} (h : m 305 k = 47) : sSl m (k + 1) = sSl m k + 1 := (xcnt_in (p := fun i => decide (m 305 i = 47)) rfl (decide_eq_true h)).symm
theorem sSl_out {m : xD} {k : Nat} (h : ¬ m 305 k = 47) : sSl m (k + 1) = sSl m k := (xcnt_out (p := fun i => decide (m 305 i = 47)) rfl (fun hh => h (of_decide_eq_true hh))).symm
theorem sSl_le {m : xD} (k : Nat) : sSl m k ≤ k := xcnt_le k
theorem c_parts {d : Nat} {g : xG} {t m : xD} (L : xLay g) (hT : TX t m) (hX : MX m) : xCall (d) 67 [(2, ((3 : Nat) : Int))] g t (xQ g t (some (0, ((1 + sSl m (nT m) : Nat) : Int)))) := by
  show xOk (d) 67 0 [(2, ((3 : Nat) : Int)), (3, 0), (3, 0)] [] g t _
  have iTn_ := iTn hX
  refine xk_push rfl (p := 1) rfl ?_
  refine xk_store rfl (p := 2) rfl (by decide) (Nat.le_of_ble_eq_true rfl) (ls' := [(2, ((3 : Nat) : Int)), (0, 1), (3, 0)]) rfl ?_
  refine xk_push rfl (p := 3) rfl ?_
  refine xk_store rfl (p := 4) rfl (by decide) (Nat.le_of_ble_eq_true rfl) (ls' := [(2, ((3 : Nat) : Int)), (0, 1), (0, 0)]) rfl ?_
  have lp1 : ∀ k : Nat, k ≤ nT m → ∀ (p : Nat), (p = 1 + sSl m k) → xOk (d) 67 4 [(2, ((3 : Nat) : Int)), (0, ((p : Nat) : Int)), (0, ((k : Nat) : Int))] [] g t (xQ g t (some (0, ((1 + sSl m (nT m) : Nat) : Int)))) := by
    refine xk_up (nT m) (fun k hkk ih1 p hi1 => ?_)
    have sl_ := sSl_le (m := m) k
    refine xk_load rfl (p := 5) rfl rfl ?_
    refine xk_load rfl (p := 6) rfl rfl ?_
    refine xk_getf rfl (p := 9) rfl (xob ((ly_tx L).1) (by decide)) (v := (0, ((nT m : Nat) : Int))) (xsl0 rfl (hT.1.trans (iTn hX).1)) ?_
    have iTn_ := iTn hX
    refine xk_icmp rfl (p := 12) rfl (fun c9_2 => ?_) (fun c9_2 => ?_)
    · replace c9_2 : ((nT m : Nat) : Int) ≤ ((k : Nat) : Int) := c9_2
      refine xk_load rfl (p := 33) rfl rfl ?_
      refine xk_rete rfl (rfl) ?_
      rw [hi1, show k = nT m by omega]
    · replace c9_2 : ¬ (((nT m : Nat) : Int) ≤ ((k : Nat) : Int)) := c9_2
      refine xk_load rfl (p := 13) rfl rfl ?_
      refine xk_getf rfl (p := 16) rfl (xob ((ly_tx L).1) (by decide)) (v := (2, ((4 : Nat) : Int))) (xsl2 rfl ((ly_tx L).2.2)) ?_
      refine xk_load rfl (p := 17) rfl rfl ?_
      refine xk_ald rfl (p := 18) rfl (v := (0, m 305 k)) ((xalb ((ly_tx L).2.1) (show k < 100 by omega)).trans (congrArg (fun z => some (0, z)) (hT.2 k (by omega)))) ?_
      have iX_ := hX.2.2 k (by omega)
      refine xk_push rfl (p := 20) rfl ?_
      refine xk_icmp rfl (p := 23) rfl (fun c20_3 => ?_) (fun c20_3 => ?_)
      · replace c20_3 : ¬ (m 305 k = 47) := c20_3
        refine xk_inc1 rfl (p := 29) rfl (n := k) rfl (by omega) (ls' := [(2, ((3 : Nat) : Int)), (0, ((p : Nat) : Int)), (0, ((k + 1 : Nat) : Int))]) rfl ?_
        refine xk_goto rfl ?_
        exact ih1 (by omega) p (by first | (rw [sSl_in (by omega)]; omega) | (rw [sSl_out (by omega)]; omega))
      · replace c20_3 : m 305 k = 47 := Decidable.not_not.mp c20_3
        refine xk_inc1 rfl (p := 26) rfl (n := p) rfl (by omega) (ls' := [(2, ((3 : Nat) : Int)), (0, ((p + 1 : Nat) : Int)), (0, ((k : Nat) : Int))]) rfl ?_
        refine xk_inc1 rfl (p := 29) rfl (n := k) rfl (by omega) (ls' := [(2, ((3 : Nat) : Int)), (0, ((p + 1 : Nat) : Int)), (0, ((k + 1 : Nat) : Int))]) rfl ?_
        refine xk_goto rfl ?_
        exact ih1 (by omega) (p + 1) (by first | (rw [sSl_in (by omega)]; omega) | (rw [sSl_out (by omega)]; omega))
  exact lp1 0 (by omega) 1 (by rfl)

def txQ (g : xG) (t : xD) (S : Option xV × xD) : Option xV → xG → xD → Prop := fun r g1 t1 => g1 = g ∧ r = S.1 ∧ TX t1 S.2 ∧ ∀ b j, ¬ (b = 3 ∨ b = 4) → t1 b j = t b j
theorem xRet {g : xG} {t u m : xD} {S : Option xV × xD} {r : Option xV} (e : S = (r, m)) (h1 : TX u m) (h2 : ∀ b j, ¬ (b = 3 ∨ b = 4) → u b j = t b j) : txQ g t S r g u := by
  rw [e]
  exact ⟨rfl, rfl, h1, h2⟩
theorem xi2b_all : (List.range 128).all (fun n => decide (xi2b ((n : Nat) : Int) = ((n : Nat) : Int))) = true := by decide +kernel
theorem xi2b_n {x : Int} (h0 : 0 ≤ x) (h1 : x ≤ 127) : xi2b x = x := by
  have := of_decide_eq_true (xball xi2b_all (show x.toNat < 128 by omega))
  rw [Int.toNat_of_nonneg h0] at this
  exact this
theorem TX.fd {t m : xD} {x : Int} (h : TX t m) (hX : MX m) (h0 : 0 ≤ x ∧ x ≤ 127) : TX (xupd (xupd t 4 (nT m) (xi2b (xi2b x))) 3 1 ((nT m + 1 : Nat) : Int)) (xupd (xupd m 292 17 (m 292 17 + 1)) 305 (m 292 17).toNat x) := by
  have i := iTn hX
  have e1 : xupd (xupd m 292 17 (m 292 17 + 1)) 305 (m 292 17).toNat x 292 17 = m 292 17 + 1 := (xupd_ne (by omega)).trans xupd_eq
  refine ⟨?_, fun k hk => ?_⟩
  · rw [e1, xupd_eq]
    omega
  · rw [e1] at hk
    rw [xupd_ne (by omega)]
    by_cases c : k = nT m
    · rw [c, xupd_eq, xi2b_n h0.1 h0.2, xi2b_n h0.1 h0.2]
      rw [show (m 292 17).toNat = nT m from rfl, xupd_eq]
    · rw [xupd_ne (by omega), xupd_ne (by unfold nT at c; omega), xupd_ne (by omega)]
      exact h.2 k (by omega)
theorem c_feed {d : Nat} {g : xG} {t m : xD} {x : Int} (L : xLay g) (hT : TX t m) (hX : MX m) : xCall (d) 69 [(2, ((2 : Nat) : Int)), (0, x)] g t (txQ g t (y_feed m x)) := by
  show xOk (d) 69 0 [(2, ((2 : Nat) : Int)), (0, x)] [] g t _
  have iTn_ := iTn hX
  refine xk_load rfl (p := 1) rfl rfl ?_
  refine xk_if rfl (p := 4) rfl (fun c1_1 => ?_) (fun c1_1 => ?_)
  · replace c1_1 : x < 0 := c1_1
    refine xk_push rfl (p := 12) rfl ?_
    refine xk_ret rfl (rfl) ?_
    exact xRet (show y_feed m x = (some (0, (-2)), m) from by unfold y_feed; (repeat' split) <;> first | (exfalso; omega) | rfl) hT (fun _ _ _ => rfl)
  · replace c1_1 : ¬ (x < 0) := c1_1
    refine xk_load rfl (p := 5) rfl rfl ?_
    refine xk_push rfl (p := 7) rfl ?_
    refine xk_icmp rfl (p := 10) rfl (fun c7_2 => ?_) (fun c7_2 => ?_)
    · replace c7_2 : x ≤ 127 := c7_2
      refine xk_load rfl (p := 14) rfl rfl ?_
      refine xk_getf rfl (p := 17) rfl (xob (ly_x L) (by decide)) (v := (2, ((3 : Nat) : Int))) (xsl2 rfl (ly_x0 L)) ?_
      refine xk_getf rfl (p := 20) rfl (xob ((ly_tx L).1) (by decide)) (v := (0, ((nT m : Nat) : Int))) (xsl0 rfl (hT.1.trans (iTn hX).1)) ?_
      have iTn_ := iTn hX
      refine xk_push rfl (p := 22) rfl ?_
      refine xk_icmp rfl (p := 25) rfl (fun c22_3 => ?_) (fun c22_3 => ?_)
      · replace c22_3 : ((nT m : Nat) : Int) < 100 := c22_3
        refine xk_load rfl (p := 29) rfl rfl ?_
        refine xk_getf rfl (p := 32) rfl (xob (ly_x L) (by decide)) (v := (2, ((3 : Nat) : Int))) (xsl2 rfl (ly_x0 L)) ?_
        refine xk_getf rfl (p := 35) rfl (xob ((ly_tx L).1) (by decide)) (v := (2, ((4 : Nat) : Int))) (xsl2 rfl ((ly_tx L).2.2)) ?_
        refine xk_load rfl (p := 36) rfl rfl ?_
        refine xk_getf rfl (p := 39) rfl (xob (ly_x L) (by decide)) (v := (2, ((3 : Nat) : Int))) (xsl2 rfl (ly_x0 L)) ?_
        refine xk_getf rfl (p := 42) rfl (xob ((ly_tx L).1) (by decide)) (v := (0, ((nT m : Nat) : Int))) (xsl0 rfl (hT.1.trans (iTn hX).1)) ?_
        have iTn_ := iTn hX
        refine xk_load rfl (p := 43) rfl rfl ?_
        refine xk_un rfl (p := 44) rfl (w := (0, xi2b x)) (rfl) ?_
        refine xk_astb rfl (p := 45) rfl (xsk ((ly_tx L).2.1)) (xsn ((ly_tx L).2.1) (show nT m < 100 by omega)) (by omega) ?_
        refine xk_load rfl (p := 46) rfl rfl ?_
        refine xk_getf rfl (p := 49) rfl (xob (ly_x L) (by decide)) (v := (2, ((3 : Nat) : Int))) (xsl2 rfl (ly_x0 L)) ?_
        refine xk_dup rfl (p := 50) rfl (show ¬ (2 : Nat) = 1 by decide) ?_
        refine xk_getf rfl (p := 53) rfl (xob ((ly_tx L).1) (by decide)) (v := (0, ((nT m : Nat) : Int))) (xsl0 rfl ((xupd_ne (by omega)).trans (hT.1.trans (iTn hX).1))) ?_
        have iTn_ := iTn hX
        refine xk_push rfl (p := 54) rfl ?_
        refine xk_bin rfl (p := 55) rfl (z := ((nT m + 1 : Nat) : Int)) (congrArg some (xadd_n (n := nT m) (m := 1) (by omega))) ?_
        refine xk_putf rfl (p := 58) rfl (xob ((ly_tx L).1) (by decide)) rfl (by decide) (by decide) (fun h => absurd h (by decide)) (by omega) ?_
        refine xk_load rfl (p := 59) rfl rfl ?_
        refine xk_getf rfl (p := 62) rfl (xob (ly_x L) (by decide)) (v := (2, ((3 : Nat) : Int))) (xsl2 rfl (ly_x0 L)) ?_
        refine xk_getf rfl (p := 65) rfl (xob ((ly_tx L).1) (by decide)) (v := (0, ((nT m + 1 : Nat) : Int))) (xsl0 rfl xupd_eq) ?_
        refine xk_ret rfl (rfl) ?_
        exact xRet (show y_feed m x = (some (0, ((nT m + 1 : Nat) : Int)), xupd (xupd m 292 17 (m 292 17 + 1)) 305 (m 292 17).toNat x) from by unfold y_feed; (repeat' split) <;> first | (exfalso; omega) | (rw [iTn_.1]; rfl) | rfl) (hT.fd hX (by omega)) (fun b j hh => (xupd_ne (by omega)).trans (xupd_ne (by omega)))
      · replace c22_3 : ¬ (((nT m : Nat) : Int) < 100) := c22_3
        refine xk_push rfl (p := 27) rfl ?_
        refine xk_ret rfl (rfl) ?_
        exact xRet (show y_feed m x = (some (0, (-4)), m) from by unfold y_feed; (repeat' split) <;> first | (exfalso; omega) | rfl) hT (fun _ _ _ => rfl)
    · replace c7_2 : ¬ (x ≤ 127) := c7_2
      refine xk_push rfl (p := 12) rfl ?_
      refine xk_ret rfl (rfl) ?_
      exact xRet (show y_feed m x = (some (0, (-2)), m) from by unfold y_feed; (repeat' split) <;> first | (exfalso; omega) | rfl) hT (fun _ _ _ => rfl)
