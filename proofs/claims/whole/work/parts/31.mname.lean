/-! THE MODEL: NAMES -/
def nT (m : xD) : Nat := (m 292 17).toNat
theorem iTn {m : xD} (h : MX m) : m 292 17 = ((nT m : Nat) : Int) ∧ nT m ≤ 100 := by
  have a := h.1
  have b := h.2.1
  unfold nT
  omega
/-- parts and letters behind so many signs -/
def fS (m : xD) : Nat → Nat × Nat
  | 0 => (1, 0)
  | i + 1 => if m 305 i = 47 ∧ 0 < (fS m i).2 ∧ (fS m i).1 < 3 then ((fS m i).1 + 1, 0) else ((fS m i).1, (fS m i).2 + 1)
theorem fS_p {m : xD} {i : Nat} (h : m 305 i = 47 ∧ 0 < (fS m i).2 ∧ (fS m i).1 < 3) : fS m (i + 1) = ((fS m i).1 + 1, 0) := if_pos h
theorem fS_l {m : xD} {i : Nat} (h : ¬ (m 305 i = 47 ∧ 0 < (fS m i).2 ∧ (fS m i).1 < 3)) : fS m (i + 1) = ((fS m i).1, (fS m i).2 + 1) := if_neg h
def fB (m : xD) (i : Nat) : Bool := decide (¬ (m 305 i = 47 ∧ 0 < (fS m i).2 ∧ (fS m i).1 < 3) ∧ (¬ (97 ≤ m 305 i ∧ m 305 i ≤ 102) ∨ (fS m i).2 = 2))
def sFau (m : xD) : Int := if xfst (fun i => decide (fB m i = true)) (nT m) < nT m then ((xfst (fun i => decide (fB m i = true)) (nT m) : Nat) : Int) else if (fS m (nT m)).2 = 0 then ((nT m : Nat) : Int) else -1
theorem sFau_1 {m : xD} {k : Nat} (hk : k < nT m) (h1 : ∀ i, i < k → ¬ fB m i = true) (h2 : fB m k = true) : sFau m = ((k : Nat) : Int) := by
  unfold sFau
  rw [xf1 (P := fun i => fB m i = true) hk h1 h2, if_pos hk]
theorem sFau_0 {m : xD} (h1 : ∀ i, i < nT m → ¬ fB m i = true) : sFau m = if (fS m (nT m)).2 = 0 then ((nT m : Nat) : Int) else -1 := by
  unfold sFau
  rw [xf0 (P := fun i => fB m i = true) h1, if_neg (Nat.lt_irrefl _)]
theorem fS_ok {m : xD} : ∀ k, (∀ i, i < k → ¬ fB m i = true) → 1 ≤ (fS m k).1 ∧ (fS m k).1 ≤ 3 ∧ (fS m k).2 ≤ 2 ∧ k + 3 ≤ 3 * (fS m k).1 + (fS m k).2
  | 0, _ => (by decide : 1 ≤ 1 ∧ 1 ≤ 3 ∧ 0 ≤ 2 ∧ 0 + 3 ≤ 3 * 1 + 0)
  | k + 1, h => by
    have ih := fS_ok k (fun i hi => h i (by omega))
    have hk := h k (by omega)
    unfold fB at hk
    rw [decide_eq_true_iff] at hk
    by_cases c : m 305 k = 47 ∧ 0 < (fS m k).2 ∧ (fS m k).1 < 3
    · rw [fS_p c]
      show 1 ≤ (fS m k).1 + 1 ∧ (fS m k).1 + 1 ≤ 3 ∧ 0 ≤ 2 ∧ k + 1 + 3 ≤ 3 * ((fS m k).1 + 1) + 0
      omega
    · rw [fS_l c]
      show 1 ≤ (fS m k).1 ∧ (fS m k).1 ≤ 3 ∧ (fS m k).2 + 1 ≤ 2 ∧ k + 1 + 3 ≤ 3 * (fS m k).1 + ((fS m k).2 + 1)
      omega
theorem sFau_rng {m : xD} : -1 ≤ sFau m ∧ sFau m ≤ nT m := by
  have := xfst_le (fun i => decide (fB m i = true)) (nT m)
  unfold sFau
  split
  · omega
  · split <;> omega
/-- a text without fault: its length, its signs -/
theorem sFau_no {m : xD} (h : sFau m = -1) : 1 ≤ nT m ∧ nT m ≤ 8 ∧ (∀ i, i < nT m → m 305 i = 47 ∨ (97 ≤ m 305 i ∧ m 305 i ≤ 102)) := by
  have hb : ∀ i, i < nT m → ¬ fB m i = true := by
    intro i hi hc
    have hl : xfst (fun i => decide (fB m i = true)) (nT m) < nT m := Nat.blt_eq.mp (xexb_iff.mpr ⟨i, hi, decide_eq_true hc⟩)
    unfold sFau at h
    rw [if_pos hl] at h
    omega
  rw [sFau_0 hb] at h
  have ok := fS_ok (nT m) hb
  by_cases c : (fS m (nT m)).2 = 0
  · rw [if_pos c] at h
    omega
  · refine ⟨?_, by omega, fun i hi => ?_⟩
    · by_cases z : nT m = 0
      · rw [z] at c
        exact absurd rfl c
      · omega
    · have hn := hb i hi
      unfold fB at hn
      rw [decide_eq_true_iff] at hn
      omega
theorem n_fault {d : Nat} {g : xG} {t m : xD} (L : xLay g) (hM : Mo t m) (hI : Inv m) (hX : MX m) : xCall (d + 1) 120 [(2, ((292 : Nat) : Int))] g t (xQ g t (some (0, sFau m))) := by
  show xOk (d + 1) 120 0 [(2, ((292 : Nat) : Int)), (3, 0), (3, 0), (3, 0), (3, 0)] [] g t _
  have iNn_ := iNn hI
  have iTn_ := iTn hX
  refine xk_push rfl (p := 1) rfl ?_
  refine xk_store rfl (p := 2) rfl (by decide) (Nat.le_of_ble_eq_true rfl) (ls' := [(2, ((292 : Nat) : Int)), (0, 1), (3, 0), (3, 0), (3, 0)]) rfl ?_
  refine xk_push rfl (p := 3) rfl ?_
  refine xk_store rfl (p := 4) rfl (by decide) (Nat.le_of_ble_eq_true rfl) (ls' := [(2, ((292 : Nat) : Int)), (0, 1), (0, 0), (3, 0), (3, 0)]) rfl ?_
  refine xk_push rfl (p := 5) rfl ?_
  refine xk_store rfl (p := 6) rfl (by decide) (Nat.le_of_ble_eq_true rfl) (ls' := [(2, ((292 : Nat) : Int)), (0, 1), (0, 0), (0, 0), (3, 0)]) rfl ?_
  have lp1 : ∀ k : Nat, k ≤ nT m → ∀ (p : Nat) (l : Nat) (w4 : xV), (∀ i, i < k → ¬ fB m i = true) → (p = (fS m k).1) → (l = (fS m k).2) → xOk (d + 1) 120 6 [(2, ((292 : Nat) : Int)), (0, ((p : Nat) : Int)), (0, ((l : Nat) : Int)), (0, ((k : Nat) : Int)), w4] [] g t (xQ g t (some (0, sFau m))) := by
    refine xk_up (nT m) (fun k hkk ih1 p l w4 hi1 hi2 hi3 => ?_)
    have fo_ := fS_ok k hi1
    refine xk_load rfl (p := 7) rfl rfl ?_
    refine xk_load rfl (p := 8) rfl rfl ?_
    refine xk_getf rfl (p := 11) rfl (xob (ly_m L) (by decide)) (v := (0, ((nT m : Nat) : Int))) (xsl0 rfl ((hM 292 17 (by decide)).trans (iTn hX).1)) ?_
    have iTn_ := iTn hX
    refine xk_icmp rfl (p := 14) rfl (fun c11_2 => ?_) (fun c11_2 => ?_)
    · replace c11_2 : ((nT m : Nat) : Int) ≤ ((k : Nat) : Int) := c11_2
      refine xk_load rfl (p := 97) rfl rfl ?_
      refine xk_if rfl (p := 100) rfl (fun c97_3 => ?_) (fun c97_3 => ?_)
      · replace c97_3 : ¬ (((l : Nat) : Int) = 0) := c97_3
        refine xk_push rfl (p := 108) rfl ?_
        refine xk_rete rfl (rfl) ?_
        have ek : k = nT m := by omega
        subst ek
        rw [sFau_0 hi1]
        first | exact (if_pos (by omega)).symm | exact (if_neg (by omega)).symm
      · replace c97_3 : ((l : Nat) : Int) = 0 := Decidable.not_not.mp c97_3
        refine xk_load rfl (p := 101) rfl rfl ?_
        refine xk_getf rfl (p := 104) rfl (xob (ly_m L) (by decide)) (v := (0, ((nT m : Nat) : Int))) (xsl0 rfl ((hM 292 17 (by decide)).trans (iTn hX).1)) ?_
        have iTn_ := iTn hX
        refine xk_goto rfl ?_
        refine xk_rete rfl (rfl) ?_
        have ek : k = nT m := by omega
        subst ek
        rw [sFau_0 hi1]
        first | exact (if_pos (by omega)).symm | exact (if_neg (by omega)).symm
    · replace c11_2 : ¬ (((nT m : Nat) : Int) ≤ ((k : Nat) : Int)) := c11_2
      refine xk_load rfl (p := 15) rfl rfl ?_
      refine xk_getf rfl (p := 18) rfl (xob (ly_m L) (by decide)) (v := (2, ((305 : Nat) : Int))) (xsl2 rfl (ly_mp18 L)) ?_
      refine xk_load rfl (p := 19) rfl rfl ?_
      refine xk_ald rfl (p := 20) rfl (v := (0, m 305 k)) ((xal0 (ly_ms18 L) (show k < 100 by omega)).trans (congrArg (fun z => some (0, z)) (hM 305 k (by decide)))) ?_
      refine xk_push rfl (p := 22) rfl ?_
      refine xk_icmp rfl (p := 25) rfl (fun c22_4 => ?_) (fun c22_4 => ?_)
      · replace c22_4 : ¬ (m 305 k = 47) := c22_4
        refine xk_push rfl (p := 39) rfl ?_
        refine xk_store rfl (p := 41) rfl (by decide) (Nat.le_of_ble_eq_true rfl) (ls' := [(2, ((292 : Nat) : Int)), (0, ((p : Nat) : Int)), (0, ((l : Nat) : Int)), (0, ((k : Nat) : Int)), (0, 0)]) rfl ?_
        refine xk_load rfl (p := 43) rfl rfl ?_
        refine xk_if rfl (p := 46) rfl (fun c43_5 => absurd c43_5 (show ¬ (¬ (0 : Int) = (0 : Int)) by decide)) (fun c43_5 => ?_)
        refine xk_load rfl (p := 47) rfl rfl ?_
        refine xk_getf rfl (p := 50) rfl (xob (ly_m L) (by decide)) (v := (2, ((305 : Nat) : Int))) (xsl2 rfl (ly_mp18 L)) ?_
        refine xk_load rfl (p := 51) rfl rfl ?_
        refine xk_ald rfl (p := 52) rfl (v := (0, m 305 k)) ((xal0 (ly_ms18 L) (show k < 100 by omega)).trans (congrArg (fun z => some (0, z)) (hM 305 k (by decide)))) ?_
        refine xk_push rfl (p := 54) rfl ?_
        refine xk_push rfl (p := 56) rfl ?_
        refine xk_callp rfl (p := 59) rfl (by decide) rfl (Nat.le_of_ble_eq_true rfl) (Nat.le_of_ble_eq_true rfl) (rfl) (as := [(0, m 305 k), (0, 97), (0, 102)]) (r := []) rfl (v := (0, (if 97 ≤ m 305 k ∧ m 305 k ≤ 102 then (1 : Int) else 0))) (n_within) ?_
        refine xk_if rfl (p := 62) rfl (fun c59_6 => ?_) (fun c59_6 => ?_)
        · replace c59_6 : ¬ (97 ≤ m 305 k ∧ m 305 k ≤ 102) := xb_e0 c59_6
          refine xk_load rfl (p := 68) rfl rfl ?_
          refine xk_rete rfl (rfl) ?_
          exact (sFau_1 (by omega) hi1 (decide_eq_true (by omega))).symm
        · replace c59_6 : 97 ≤ m 305 k ∧ m 305 k ≤ 102 := xb_n0 c59_6
          refine xk_load rfl (p := 63) rfl rfl ?_
          refine xk_push rfl (p := 64) rfl ?_
          refine xk_icmp rfl (p := 67) rfl (fun c64_7 => ?_) (fun c64_7 => ?_)
          · replace c64_7 : ¬ (((l : Nat) : Int) = 2) := c64_7
            refine xk_load rfl (p := 71) rfl rfl ?_
            refine xk_if rfl (p := 74) rfl (fun c71_8 => ?_) (fun c71_8 => absurd (show (0 : Int) = (0 : Int) by decide) c71_8)
            refine xk_load rfl (p := 79) rfl rfl ?_
            refine xk_if rfl (p := 82) rfl (fun c79_9 => ?_) (fun c79_9 => absurd (show (0 : Int) = (0 : Int) by decide) c79_9)
            refine xk_load rfl (p := 87) rfl rfl ?_
            refine xk_push rfl (p := 88) rfl ?_
            refine xk_bin rfl (p := 89) rfl (z := ((l + 1 : Nat) : Int)) (congrArg some (xadd_n (n := l) (m := 1) (by omega))) ?_
            refine xk_store rfl (p := 90) rfl (by decide) (Nat.le_of_ble_eq_true rfl) (ls' := [(2, ((292 : Nat) : Int)), (0, ((p : Nat) : Int)), (0, ((l + 1 : Nat) : Int)), (0, ((k : Nat) : Int)), (0, 0)]) rfl ?_
            refine xk_inc1 rfl (p := 93) rfl (n := k) rfl (by omega) (ls' := [(2, ((292 : Nat) : Int)), (0, ((p : Nat) : Int)), (0, ((l + 1 : Nat) : Int)), (0, ((k + 1 : Nat) : Int)), (0, 0)]) rfl ?_
            refine xk_goto rfl ?_
            exact ih1 (by omega) p (l + 1) (0, 0) (by exact xall_up hi1 (fun h => by have h := of_decide_eq_true h; omega)) (by first | (rw [fS_p (by omega)]; exact congrArg (· + 1) hi2) | (rw [fS_l (by omega)]; exact hi2)) (by first | (rw [fS_p (by omega)]; done) | (rw [fS_l (by omega)]; exact congrArg (· + 1) hi3))
          · replace c64_7 : ((l : Nat) : Int) = 2 := Decidable.not_not.mp c64_7
            refine xk_load rfl (p := 68) rfl rfl ?_
            refine xk_rete rfl (rfl) ?_
            exact (sFau_1 (by omega) hi1 (decide_eq_true (by omega))).symm
      · replace c22_4 : m 305 k = 47 := Decidable.not_not.mp c22_4
        refine xk_load rfl (p := 26) rfl rfl ?_
        refine xk_if rfl (p := 29) rfl (fun c26_10 => ?_) (fun c26_10 => ?_)
        · replace c26_10 : ((l : Nat) : Int) ≤ 0 := c26_10
          refine xk_push rfl (p := 39) rfl ?_
          refine xk_store rfl (p := 41) rfl (by decide) (Nat.le_of_ble_eq_true rfl) (ls' := [(2, ((292 : Nat) : Int)), (0, ((p : Nat) : Int)), (0, ((l : Nat) : Int)), (0, ((k : Nat) : Int)), (0, 0)]) rfl ?_
          refine xk_load rfl (p := 43) rfl rfl ?_
          refine xk_if rfl (p := 46) rfl (fun c43_11 => absurd c43_11 (show ¬ (¬ (0 : Int) = (0 : Int)) by decide)) (fun c43_11 => ?_)
          refine xk_load rfl (p := 47) rfl rfl ?_
          refine xk_getf rfl (p := 50) rfl (xob (ly_m L) (by decide)) (v := (2, ((305 : Nat) : Int))) (xsl2 rfl (ly_mp18 L)) ?_
          refine xk_load rfl (p := 51) rfl rfl ?_
          refine xk_ald rfl (p := 52) rfl (v := (0, m 305 k)) ((xal0 (ly_ms18 L) (show k < 100 by omega)).trans (congrArg (fun z => some (0, z)) (hM 305 k (by decide)))) ?_
          refine xk_push rfl (p := 54) rfl ?_
          refine xk_push rfl (p := 56) rfl ?_
          refine xk_callp rfl (p := 59) rfl (by decide) rfl (Nat.le_of_ble_eq_true rfl) (Nat.le_of_ble_eq_true rfl) (rfl) (as := [(0, m 305 k), (0, 97), (0, 102)]) (r := []) rfl (v := (0, (if 97 ≤ m 305 k ∧ m 305 k ≤ 102 then (1 : Int) else 0))) (n_within) ?_
          refine xk_if rfl (p := 62) rfl (fun c59_12 => ?_) (fun c59_12 => ?_)
          · replace c59_12 : ¬ (97 ≤ m 305 k ∧ m 305 k ≤ 102) := xb_e0 c59_12
            refine xk_load rfl (p := 68) rfl rfl ?_
            refine xk_rete rfl (rfl) ?_
            exact (sFau_1 (by omega) hi1 (decide_eq_true (by omega))).symm
          · replace c59_12 : 97 ≤ m 305 k ∧ m 305 k ≤ 102 := xb_n0 c59_12
            refine xk_load rfl (p := 63) rfl rfl ?_
            refine xk_push rfl (p := 64) rfl ?_
            refine xk_icmp rfl (p := 67) rfl (fun c64_13 => ?_) (fun c64_13 => ?_)
            · replace c64_13 : ¬ (((l : Nat) : Int) = 2) := c64_13
              refine xk_load rfl (p := 71) rfl rfl ?_
              refine xk_if rfl (p := 74) rfl (fun c71_14 => ?_) (fun c71_14 => absurd (show (0 : Int) = (0 : Int) by decide) c71_14)
              refine xk_load rfl (p := 79) rfl rfl ?_
              refine xk_if rfl (p := 82) rfl (fun c79_15 => ?_) (fun c79_15 => absurd (show (0 : Int) = (0 : Int) by decide) c79_15)
              refine xk_load rfl (p := 87) rfl rfl ?_
              refine xk_push rfl (p := 88) rfl ?_
              refine xk_bin rfl (p := 89) rfl (z := ((l + 1 : Nat) : Int)) (congrArg some (xadd_n (n := l) (m := 1) (by omega))) ?_
              refine xk_store rfl (p := 90) rfl (by decide) (Nat.le_of_ble_eq_true rfl) (ls' := [(2, ((292 : Nat) : Int)), (0, ((p : Nat) : Int)), (0, ((l + 1 : Nat) : Int)), (0, ((k : Nat) : Int)), (0, 0)]) rfl ?_
              refine xk_inc1 rfl (p := 93) rfl (n := k) rfl (by omega) (ls' := [(2, ((292 : Nat) : Int)), (0, ((p : Nat) : Int)), (0, ((l + 1 : Nat) : Int)), (0, ((k + 1 : Nat) : Int)), (0, 0)]) rfl ?_
              refine xk_goto rfl ?_
              exact ih1 (by omega) p (l + 1) (0, 0) (by exact xall_up hi1 (fun h => by have h := of_decide_eq_true h; omega)) (by first | (rw [fS_p (by omega)]; exact congrArg (· + 1) hi2) | (rw [fS_l (by omega)]; exact hi2)) (by first | (rw [fS_p (by omega)]; done) | (rw [fS_l (by omega)]; exact congrArg (· + 1) hi3))
            · replace c64_13 : ((l : Nat) : Int) = 2 := Decidable.not_not.mp c64_13
              refine xk_load rfl (p := 68) rfl rfl ?_
              refine xk_rete rfl (rfl) ?_
              exact (sFau_1 (by omega) hi1 (decide_eq_true (by omega))).symm
        · replace c26_10 : ¬ (((l : Nat) : Int) ≤ 0) := c26_10
          refine xk_load rfl (p := 30) rfl rfl ?_
          refine xk_push rfl (p := 31) rfl ?_
          refine xk_icmp rfl (p := 34) rfl (fun c31_16 => ?_) (fun c31_16 => ?_)
          · replace c31_16 : 3 ≤ ((p : Nat) : Int) := c31_16
            refine xk_push rfl (p := 39) rfl ?_
            refine xk_store rfl (p := 41) rfl (by decide) (Nat.le_of_ble_eq_true rfl) (ls' := [(2, ((292 : Nat) : Int)), (0, ((p : Nat) : Int)), (0, ((l : Nat) : Int)), (0, ((k : Nat) : Int)), (0, 0)]) rfl ?_
            refine xk_load rfl (p := 43) rfl rfl ?_
            refine xk_if rfl (p := 46) rfl (fun c43_17 => absurd c43_17 (show ¬ (¬ (0 : Int) = (0 : Int)) by decide)) (fun c43_17 => ?_)
            refine xk_load rfl (p := 47) rfl rfl ?_
            refine xk_getf rfl (p := 50) rfl (xob (ly_m L) (by decide)) (v := (2, ((305 : Nat) : Int))) (xsl2 rfl (ly_mp18 L)) ?_
            refine xk_load rfl (p := 51) rfl rfl ?_
            refine xk_ald rfl (p := 52) rfl (v := (0, m 305 k)) ((xal0 (ly_ms18 L) (show k < 100 by omega)).trans (congrArg (fun z => some (0, z)) (hM 305 k (by decide)))) ?_
            refine xk_push rfl (p := 54) rfl ?_
            refine xk_push rfl (p := 56) rfl ?_
            refine xk_callp rfl (p := 59) rfl (by decide) rfl (Nat.le_of_ble_eq_true rfl) (Nat.le_of_ble_eq_true rfl) (rfl) (as := [(0, m 305 k), (0, 97), (0, 102)]) (r := []) rfl (v := (0, (if 97 ≤ m 305 k ∧ m 305 k ≤ 102 then (1 : Int) else 0))) (n_within) ?_
            refine xk_if rfl (p := 62) rfl (fun c59_18 => ?_) (fun c59_18 => ?_)
            · replace c59_18 : ¬ (97 ≤ m 305 k ∧ m 305 k ≤ 102) := xb_e0 c59_18
              refine xk_load rfl (p := 68) rfl rfl ?_
              refine xk_rete rfl (rfl) ?_
              exact (sFau_1 (by omega) hi1 (decide_eq_true (by omega))).symm
            · replace c59_18 : 97 ≤ m 305 k ∧ m 305 k ≤ 102 := xb_n0 c59_18
              refine xk_load rfl (p := 63) rfl rfl ?_
              refine xk_push rfl (p := 64) rfl ?_
              refine xk_icmp rfl (p := 67) rfl (fun c64_19 => ?_) (fun c64_19 => ?_)
              · replace c64_19 : ¬ (((l : Nat) : Int) = 2) := c64_19
                refine xk_load rfl (p := 71) rfl rfl ?_
                refine xk_if rfl (p := 74) rfl (fun c71_20 => ?_) (fun c71_20 => absurd (show (0 : Int) = (0 : Int) by decide) c71_20)
                refine xk_load rfl (p := 79) rfl rfl ?_
                refine xk_if rfl (p := 82) rfl (fun c79_21 => ?_) (fun c79_21 => absurd (show (0 : Int) = (0 : Int) by decide) c79_21)
                refine xk_load rfl (p := 87) rfl rfl ?_
                refine xk_push rfl (p := 88) rfl ?_
                refine xk_bin rfl (p := 89) rfl (z := ((l + 1 : Nat) : Int)) (congrArg some (xadd_n (n := l) (m := 1) (by omega))) ?_
                refine xk_store rfl (p := 90) rfl (by decide) (Nat.le_of_ble_eq_true rfl) (ls' := [(2, ((292 : Nat) : Int)), (0, ((p : Nat) : Int)), (0, ((l + 1 : Nat) : Int)), (0, ((k : Nat) : Int)), (0, 0)]) rfl ?_
                refine xk_inc1 rfl (p := 93) rfl (n := k) rfl (by omega) (ls' := [(2, ((292 : Nat) : Int)), (0, ((p : Nat) : Int)), (0, ((l + 1 : Nat) : Int)), (0, ((k + 1 : Nat) : Int)), (0, 0)]) rfl ?_
                refine xk_goto rfl ?_
                exact ih1 (by omega) p (l + 1) (0, 0) (by exact xall_up hi1 (fun h => by have h := of_decide_eq_true h; omega)) (by first | (rw [fS_p (by omega)]; exact congrArg (· + 1) hi2) | (rw [fS_l (by omega)]; exact hi2)) (by first | (rw [fS_p (by omega)]; done) | (rw [fS_l (by omega)]; exact congrArg (· + 1) hi3))
              · replace c64_19 : ((l : Nat) : Int) = 2 := Decidable.not_not.mp c64_19
                refine xk_load rfl (p := 68) rfl rfl ?_
                refine xk_rete rfl (rfl) ?_
                exact (sFau_1 (by omega) hi1 (decide_eq_true (by omega))).symm
          · replace c31_16 : ¬ (3 ≤ ((p : Nat) : Int)) := c31_16
            refine xk_push rfl (p := 35) rfl ?_
            refine xk_goto rfl ?_
            refine xk_store rfl (p := 41) rfl (by decide) (Nat.le_of_ble_eq_true rfl) (ls' := [(2, ((292 : Nat) : Int)), (0, ((p : Nat) : Int)), (0, ((l : Nat) : Int)), (0, ((k : Nat) : Int)), (0, 1)]) rfl ?_
            refine xk_load rfl (p := 43) rfl rfl ?_
            refine xk_if rfl (p := 46) rfl (fun c43_22 => ?_) (fun c43_22 => absurd (show ¬ (1 : Int) = (0 : Int) by decide) c43_22)
            refine xk_load rfl (p := 71) rfl rfl ?_
            refine xk_if rfl (p := 74) rfl (fun c71_23 => absurd c71_23 (show ¬ ((1 : Int) = (0 : Int)) by decide)) (fun c71_23 => ?_)
            refine xk_inc1 rfl (p := 77) rfl (n := p) rfl (by omega) (ls' := [(2, ((292 : Nat) : Int)), (0, ((p + 1 : Nat) : Int)), (0, ((l : Nat) : Int)), (0, ((k : Nat) : Int)), (0, 1)]) rfl ?_
            refine xk_load rfl (p := 79) rfl rfl ?_
            refine xk_if rfl (p := 82) rfl (fun c79_24 => absurd c79_24 (show ¬ ((1 : Int) = (0 : Int)) by decide)) (fun c79_24 => ?_)
            refine xk_push rfl (p := 83) rfl ?_
            refine xk_goto rfl ?_
            refine xk_store rfl (p := 90) rfl (by decide) (Nat.le_of_ble_eq_true rfl) (ls' := [(2, ((292 : Nat) : Int)), (0, ((p + 1 : Nat) : Int)), (0, 0), (0, ((k : Nat) : Int)), (0, 1)]) rfl ?_
            refine xk_inc1 rfl (p := 93) rfl (n := k) rfl (by omega) (ls' := [(2, ((292 : Nat) : Int)), (0, ((p + 1 : Nat) : Int)), (0, 0), (0, ((k + 1 : Nat) : Int)), (0, 1)]) rfl ?_
            refine xk_goto rfl ?_
            exact ih1 (by omega) (p + 1) 0 (0, 1) (by exact xall_up hi1 (fun h => by have h := of_decide_eq_true h; omega)) (by first | (rw [fS_p (by omega)]; exact congrArg (· + 1) hi2) | (rw [fS_l (by omega)]; exact hi2)) (by first | (rw [fS_p (by omega)]; done) | (rw [fS_l (by omega)]; exact congrArg (· + 1) hi3))
  exact lp1 0 (by omega) 1 0 (3, 0) (by intro i h; omega) (by rfl) (by rfl)

def bTxt (m : xD) (n : Nat) : Bool := decide (nL m n = nT m ∧ ∀ i, i < nT m → m 293 (8 * n + i) = m 305 i)
theorem bTxt_iff {m : xD} {n : Nat} : bTxt m n = true ↔ (nL m n = nT m ∧ ∀ i, i < nT m → m 293 (8 * n + i) = m 305 i) := decide_eq_true_iff
theorem n_isText {d : Nat} {g : xG} {t m : xD} {n : Nat} (L : xLay g) (hM : Mo t m) (hI : Inv m) (hX : MX m) (hn : n < nN m) : xCall (d) 121 [(2, ((292 : Nat) : Int)), (0, ((n : Nat) : Int))] g t (xQ g t (some (0, if bTxt m n = true then (1 : Int) else 0))) := by
  show xOk (d) 121 0 [(2, ((292 : Nat) : Int)), (0, ((n : Nat) : Int)), (3, 0)] [] g t _
  have iNn_ := iNn hI
  have iTn_ := iTn hX
  have iLn0_ := iLn hI hn
  refine xk_load rfl (p := 1) rfl rfl ?_
  refine xk_getf rfl (p := 4) rfl (xob (ly_m L) (by decide)) (v := (2, ((294 : Nat) : Int))) (xsl2 rfl (ly_mp2 L)) ?_
  refine xk_load rfl (p := 5) rfl rfl ?_
  refine xk_ald rfl (p := 6) rfl (v := (0, ((nL m n : Nat) : Int))) ((xal0 (ly_ms2 L) (show n < 12 by omega)).trans (congrArg (fun z => some (0, z)) ((hM 294 n (by decide)).trans (iLn hI (show n < nN m by omega)).1))) ?_
  have iLn_ := iLn hI (show n < nN m by omega)
  refine xk_load rfl (p := 7) rfl rfl ?_
  refine xk_getf rfl (p := 10) rfl (xob (ly_m L) (by decide)) (v := (0, ((nT m : Nat) : Int))) (xsl0 rfl ((hM 292 17 (by decide)).trans (iTn hX).1)) ?_
  have iTn_ := iTn hX
  refine xk_icmp rfl (p := 13) rfl (fun c10_1 => ?_) (fun c10_1 => ?_)
  · replace c10_1 : ((nL m n : Nat) : Int) = ((nT m : Nat) : Int) := c10_1
    refine xk_push rfl (p := 16) rfl ?_
    refine xk_store rfl (p := 17) rfl (by decide) (Nat.le_of_ble_eq_true rfl) (ls' := [(2, ((292 : Nat) : Int)), (0, ((n : Nat) : Int)), (0, 0)]) rfl ?_
    have lp2 : ∀ k : Nat, k ≤ nT m → (∀ i, i < k → m 293 (8 * n + i) = m 305 i) → xOk (d) 121 17 [(2, ((292 : Nat) : Int)), (0, ((n : Nat) : Int)), (0, ((k : Nat) : Int))] [] g t (xQ g t (some (0, if bTxt m n = true then (1 : Int) else 0))) := by
      refine xk_up (nT m) (fun k hkk ih2  hi1 => ?_)
      refine xk_load rfl (p := 18) rfl rfl ?_
      refine xk_load rfl (p := 19) rfl rfl ?_
      refine xk_getf rfl (p := 22) rfl (xob (ly_m L) (by decide)) (v := (0, ((nT m : Nat) : Int))) (xsl0 rfl ((hM 292 17 (by decide)).trans (iTn hX).1)) ?_
      have iTn_ := iTn hX
      refine xk_icmp rfl (p := 25) rfl (fun c22_3 => ?_) (fun c22_3 => ?_)
      · replace c22_3 : ((nT m : Nat) : Int) ≤ ((k : Nat) : Int) := c22_3
        refine xk_push rfl (p := 54) rfl ?_
        refine xk_rete rfl (rfl) ?_
        exact (if_pos (bTxt_iff.mpr ⟨by omega, fun i hi => hi1 i (by omega)⟩)).symm
      · replace c22_3 : ¬ (((nT m : Nat) : Int) ≤ ((k : Nat) : Int)) := c22_3
        refine xk_load rfl (p := 26) rfl rfl ?_
        refine xk_getf rfl (p := 29) rfl (xob (ly_m L) (by decide)) (v := (2, ((293 : Nat) : Int))) (xsl2 rfl (ly_mp1 L)) ?_
        refine xk_push rfl (p := 31) rfl ?_
        refine xk_load rfl (p := 32) rfl rfl ?_
        refine xk_bin rfl (p := 33) rfl (z := ((8 * n : Nat) : Int)) (congrArg some (xmul_n (n := 8) (m := n) (by omega))) ?_
        refine xk_load rfl (p := 34) rfl rfl ?_
        refine xk_bin rfl (p := 35) rfl (z := ((8 * n + k : Nat) : Int)) (congrArg some (xadd_n (n := 8 * n) (m := k) (by omega))) ?_
        refine xk_ald rfl (p := 36) rfl (v := (0, m 293 (8 * n + k))) ((xal0 (ly_ms1 L) (show 8 * n + k < 96 by omega)).trans (congrArg (fun z => some (0, z)) (hM 293 (8 * n + k) (by decide)))) ?_
        refine xk_load rfl (p := 37) rfl rfl ?_
        refine xk_getf rfl (p := 40) rfl (xob (ly_m L) (by decide)) (v := (2, ((305 : Nat) : Int))) (xsl2 rfl (ly_mp18 L)) ?_
        refine xk_load rfl (p := 41) rfl rfl ?_
        refine xk_ald rfl (p := 42) rfl (v := (0, m 305 k)) ((xal0 (ly_ms18 L) (show k < 100 by omega)).trans (congrArg (fun z => some (0, z)) (hM 305 k (by decide)))) ?_
        refine xk_icmp rfl (p := 45) rfl (fun c42_4 => ?_) (fun c42_4 => ?_)
        · replace c42_4 : m 293 (8 * n + k) = m 305 k := c42_4
          refine xk_inc1 rfl (p := 50) rfl (n := k) rfl (by omega) (ls' := [(2, ((292 : Nat) : Int)), (0, ((n : Nat) : Int)), (0, ((k + 1 : Nat) : Int))]) rfl ?_
          refine xk_goto rfl ?_
          exact ih2 (by omega)  (by exact xall_up hi1 (by assumption))
        · replace c42_4 : ¬ (m 293 (8 * n + k) = m 305 k) := c42_4
          refine xk_push rfl (p := 46) rfl ?_
          refine xk_rete rfl (rfl) ?_
          exact (if_neg (fun h => by have h := (bTxt_iff.mp h).2 k (by omega); contradiction)).symm
    exact lp2 0 (by omega)  (by intro i h; omega)
  · replace c10_1 : ¬ (((nL m n : Nat) : Int) = ((nT m : Nat) : Int)) := c10_1
    refine xk_push rfl (p := 14) rfl ?_
    refine xk_rete rfl (rfl) ?_
    exact (if_neg (fun h => by have h := (bTxt_iff.mp h).1; omega)).symm

def sSl (m : xD) (K : Nat) : Nat := xcnt (fun i => decide (m 305 i = 47)) K
/-- a new name: its first K signs -/
def tN1 (m : xD) (l K : Nat) : xD := fun a k => if a = 293 ∧ 8 * nN m ≤ k ∧ k < 8 * nN m + K then m 305 (k - 8 * nN m) else if a = 295 ∧ k = nN m then ((1 + sSl m K : Nat) : Int) else xupd (xupd m 292 0 ((nN m + 1 : Nat) : Int)) 294 (nN m) ((l : Nat) : Int) a k
def tN2 (m : xD) (l : Nat) : xD := xupd (xupd (xupd (xupd (tN1 m l l) 296 (nN m) 0) 297 (nN m) 0) 298 (nN m) 0) 304 (nN m) 0
theorem tN1_0 {m : xD} {l : Nat} : xupd (xupd (xupd m 292 0 ((nN m + 1 : Nat) : Int)) 294 (nN m) ((l : Nat) : Int)) 295 (nN m) 1 = tN1 m l 0 := by
  funext a k
  unfold tN1
  by_cases c : a = 295 ∧ k = nN m
  · obtain ⟨rfl, rfl⟩ := c
    exact xupd_eq.trans (Eq.symm ((if_neg (by omega)).trans ((if_pos ⟨rfl, rfl⟩).trans rfl)))
  · exact (xupd_ne c).trans (Eq.symm ((if_neg (by omega)).trans (if_neg c)))
theorem tN1_s {m : xD} {l k a j : Nat} (h : ¬ (a = 293 ∧ j = 8 * nN m + k)) (h2 : ¬ (a = 295 ∧ j = nN m)) : tN1 m l (k + 1) a j = tN1 m l k a j := by
  unfold tN1
  have e1 : (a = 293 ∧ 8 * nN m ≤ j ∧ j < 8 * nN m + (k + 1)) ↔ (a = 293 ∧ 8 * nN m ≤ j ∧ j < 8 * nN m + k) := by omega
  simp only [e1, if_neg h2]
theorem Mo.n1 {t m : xD} {l k : Nat} (h : Mo t (tN1 m l k)) (c : ¬ m 305 k = 47) : Mo (xupd t 293 (8 * nN m + k) (m 305 k)) (tN1 m l (k + 1)) := fun a j ha => by
  by_cases c1 : a = 293 ∧ j = 8 * nN m + k
  · obtain ⟨rfl, rfl⟩ := c1
    exact xupd_eq.trans (Eq.symm ((if_pos (by omega)).trans (congrArg (m 305) (by omega))))
  · refine (xupd_ne c1).trans ((h a j ha).trans ?_)
    by_cases c2 : a = 295 ∧ j = nN m
    · obtain ⟨rfl, rfl⟩ := c2
      refine ((if_neg (by omega)).trans (if_pos ⟨rfl, rfl⟩)).trans (Eq.symm (((if_neg (by omega)).trans (if_pos ⟨rfl, rfl⟩)).trans ?_))
      rw [show sSl m (k + 1) = sSl m k from (xcnt_out rfl (fun e => c (of_decide_eq_true e))).symm]
    · exact (tN1_s c1 c2).symm
theorem Mo.n2 {t m : xD} {l k : Nat} {x : Int} (h : Mo t (tN1 m l k)) (c : m 305 k = 47) (hx : x = ((1 + sSl m k : Nat) : Int) + 1) : Mo (xupd (xupd t 293 (8 * nN m + k) (m 305 k)) 295 (nN m) x) (tN1 m l (k + 1)) := fun a j ha => by
  by_cases c2 : a = 295 ∧ j = nN m
  · obtain ⟨rfl, rfl⟩ := c2
    refine xupd_eq.trans (Eq.symm (((if_neg (by omega)).trans (if_pos ⟨rfl, rfl⟩)).trans ?_))
    rw [show sSl m (k + 1) = sSl m k + 1 from (xcnt_in rfl (decide_eq_true c)).symm, hx]
    omega
  · refine (xupd_ne c2).trans ?_
    by_cases c1 : a = 293 ∧ j = 8 * nN m + k
    · obtain ⟨rfl, rfl⟩ := c1
      exact xupd_eq.trans (Eq.symm ((if_pos (by omega)).trans (congrArg (m 305) (by omega))))
    · exact (xupd_ne c1).trans ((h a j ha).trans (tN1_s c1 c2).symm)
theorem n_newName {d : Nat} {g : xG} {t m : xD} {l : Nat} (L : xLay g) (hM : Mo t m) (hI : Inv m) (hl : l ≤ 8) (hN : nN m < 12) : xCall (d) 122 [(2, ((292 : Nat) : Int)), (0, ((l : Nat) : Int))] g t (yQ g t (some (0, ((nN m : Nat) : Int)), tN2 m l)) := by
  show xOk (d) 122 0 [(2, ((292 : Nat) : Int)), (0, ((l : Nat) : Int)), (3, 0), (3, 0)] [] g t _
  have iNn_ := iNn hI
  refine xk_load rfl (p := 1) rfl rfl ?_
  refine xk_dup rfl (p := 2) rfl (show ¬ (2 : Nat) = 1 by decide) ?_
  refine xk_getf rfl (p := 5) rfl (xob (ly_m L) (by decide)) (v := (0, ((nN m : Nat) : Int))) (xsl0 rfl ((hM 292 0 (by decide)).trans (iNn hI).1)) ?_
  have iNn_ := iNn hI
  refine xk_dupx1 rfl (p := 6) rfl (show ¬ ((0 : Nat) = 1 ∨ (2 : Nat) = 1) by decide) ?_
  refine xk_push rfl (p := 7) rfl ?_
  refine xk_bin rfl (p := 8) rfl (z := ((nN m + 1 : Nat) : Int)) (congrArg some (xadd_n (n := nN m) (m := 1) (by omega))) ?_
  refine xk_putf rfl (p := 11) rfl (xob (ly_m L) (by decide)) rfl (by decide) (by decide) (fun h => absurd h (by decide)) (by omega) ?_
  refine xk_store rfl (p := 12) rfl (by decide) (Nat.le_of_ble_eq_true rfl) (ls' := [(2, ((292 : Nat) : Int)), (0, ((l : Nat) : Int)), (0, ((nN m : Nat) : Int)), (3, 0)]) rfl ?_
  refine xk_load rfl (p := 13) rfl rfl ?_
  refine xk_getf rfl (p := 16) rfl (xob (ly_m L) (by decide)) (v := (2, ((294 : Nat) : Int))) (xsl2 rfl (ly_mp2 L)) ?_
  refine xk_load rfl (p := 17) rfl rfl ?_
  refine xk_load rfl (p := 18) rfl rfl ?_
  refine xk_ast rfl (p := 19) rfl (by decide) rfl (xsk (ly_ms2 L)) (xsn (ly_ms2 L) (show nN m < 12 by omega)) (by omega) ?_
  refine xk_load rfl (p := 20) rfl rfl ?_
  refine xk_getf rfl (p := 23) rfl (xob (ly_m L) (by decide)) (v := (2, ((295 : Nat) : Int))) (xsl2 rfl (ly_mp3 L)) ?_
  refine xk_load rfl (p := 24) rfl rfl ?_
  refine xk_push rfl (p := 25) rfl ?_
  refine xk_ast rfl (p := 26) rfl (by decide) rfl (xsk (ly_ms3 L)) (xsn (ly_ms3 L) (show nN m < 12 by omega)) (by omega) ?_
  refine xk_push rfl (p := 27) rfl ?_
  refine xk_store rfl (p := 28) rfl (by decide) (Nat.le_of_ble_eq_true rfl) (ls' := [(2, ((292 : Nat) : Int)), (0, ((l : Nat) : Int)), (0, ((nN m : Nat) : Int)), (0, 0)]) rfl ?_
  have lp1 : ∀ k : Nat, k ≤ l → ∀ (u1 : xD), (Mo u1 (tN1 m l k)) → (Md t u1) → xOk (d) 122 28 [(2, ((292 : Nat) : Int)), (0, ((l : Nat) : Int)), (0, ((nN m : Nat) : Int)), (0, ((k : Nat) : Int))] [] g u1 (yQ g t (some (0, ((nN m : Nat) : Int)), tN2 m l)) := by
    refine xk_up l (fun k hkk ih1  u1 hi1 hi2 => ?_)
    have sl_ := xcnt_le (p := fun i => decide (m 305 i = 47)) k
    have sl2_ : sSl m k ≤ k := sl_
    refine xk_load rfl (p := 29) rfl rfl ?_
    refine xk_load rfl (p := 30) rfl rfl ?_
    refine xk_icmp rfl (p := 33) rfl (fun c30_2 => ?_) (fun c30_2 => ?_)
    · replace c30_2 : ((l : Nat) : Int) ≤ ((k : Nat) : Int) := c30_2
      refine xk_load rfl (p := 78) rfl rfl ?_
      refine xk_getf rfl (p := 81) rfl (xob (ly_m L) (by decide)) (v := (2, ((296 : Nat) : Int))) (xsl2 rfl (ly_mp4 L)) ?_
      refine xk_load rfl (p := 82) rfl rfl ?_
      refine xk_push rfl (p := 83) rfl ?_
      refine xk_ast rfl (p := 84) rfl (by decide) rfl (xsk (ly_ms4 L)) (xsn (ly_ms4 L) (show nN m < 12 by omega)) (by omega) ?_
      refine xk_load rfl (p := 85) rfl rfl ?_
      refine xk_getf rfl (p := 88) rfl (xob (ly_m L) (by decide)) (v := (2, ((297 : Nat) : Int))) (xsl2 rfl (ly_mp5 L)) ?_
      refine xk_load rfl (p := 89) rfl rfl ?_
      refine xk_push rfl (p := 90) rfl ?_
      refine xk_ast rfl (p := 91) rfl (by decide) rfl (xsk (ly_ms5 L)) (xsn (ly_ms5 L) (show nN m < 12 by omega)) (by omega) ?_
      refine xk_load rfl (p := 92) rfl rfl ?_
      refine xk_getf rfl (p := 95) rfl (xob (ly_m L) (by decide)) (v := (2, ((298 : Nat) : Int))) (xsl2 rfl (ly_mp7 L)) ?_
      refine xk_load rfl (p := 96) rfl rfl ?_
      refine xk_push rfl (p := 97) rfl ?_
      refine xk_ast rfl (p := 98) rfl (by decide) rfl (xsk (ly_ms7 L)) (xsn (ly_ms7 L) (show nN m < 12 by omega)) (by omega) ?_
      refine xk_load rfl (p := 99) rfl rfl ?_
      refine xk_getf rfl (p := 102) rfl (xob (ly_m L) (by decide)) (v := (2, ((304 : Nat) : Int))) (xsl2 rfl (ly_mp16 L)) ?_
      refine xk_load rfl (p := 103) rfl rfl ?_
      refine xk_push rfl (p := 104) rfl ?_
      refine xk_ast rfl (p := 105) rfl (by decide) rfl (xsk (ly_ms16 L)) (xsn (ly_ms16 L) (show nN m < 12 by omega)) (by omega) ?_
      refine xk_load rfl (p := 106) rfl rfl ?_
      refine xk_ret rfl (rfl) ?_
      rw [show k = l by omega] at hi1
      exact yRet rfl hi1.up.up.up.up ((((hi2.up (by decide)).up (by decide)).up (by decide)).up (by decide))
    · replace c30_2 : ¬ (((l : Nat) : Int) ≤ ((k : Nat) : Int)) := c30_2
      refine xk_load rfl (p := 34) rfl rfl ?_
      refine xk_getf rfl (p := 37) rfl (xob (ly_m L) (by decide)) (v := (2, ((293 : Nat) : Int))) (xsl2 rfl (ly_mp1 L)) ?_
      refine xk_push rfl (p := 39) rfl ?_
      refine xk_load rfl (p := 40) rfl rfl ?_
      refine xk_bin rfl (p := 41) rfl (z := ((8 * (nN m) : Nat) : Int)) (congrArg some (xmul_n (n := 8) (m := nN m) (by omega))) ?_
      refine xk_load rfl (p := 42) rfl rfl ?_
      refine xk_bin rfl (p := 43) rfl (z := ((8 * (nN m) + k : Nat) : Int)) (congrArg some (xadd_n (n := 8 * (nN m)) (m := k) (by omega))) ?_
      refine xk_load rfl (p := 44) rfl rfl ?_
      refine xk_getf rfl (p := 47) rfl (xob (ly_m L) (by decide)) (v := (2, ((305 : Nat) : Int))) (xsl2 rfl (ly_mp18 L)) ?_
      refine xk_load rfl (p := 48) rfl rfl ?_
      refine xk_ald rfl (p := 49) rfl (v := (0, m 305 k)) ((xal0 (ly_ms18 L) (show k < 100 by omega)).trans (congrArg (fun z => some (0, z)) ((hi1 305 k (by decide)).trans ((if_neg (by omega)).trans (if_neg (by omega)))))) ?_
      refine xk_ast rfl (p := 50) rfl (by decide) rfl (xsk (ly_ms1 L)) (xsn (ly_ms1 L) (show 8 * (nN m) + k < 96 by omega)) (by omega) ?_
      refine xk_load rfl (p := 51) rfl rfl ?_
      refine xk_getf rfl (p := 54) rfl (xob (ly_m L) (by decide)) (v := (2, ((305 : Nat) : Int))) (xsl2 rfl (ly_mp18 L)) ?_
      refine xk_load rfl (p := 55) rfl rfl ?_
      refine xk_ald rfl (p := 56) rfl (v := (0, m 305 k)) ((xal0 (ly_ms18 L) (show k < 100 by omega)).trans (congrArg (fun z => some (0, z)) (((xupd_ne (by omega)).trans ((hi1 305 k (by decide)).trans ((if_neg (by omega)).trans (if_neg (by omega)))))))) ?_
      refine xk_push rfl (p := 58) rfl ?_
      refine xk_icmp rfl (p := 61) rfl (fun c58_3 => ?_) (fun c58_3 => ?_)
      · replace c58_3 : ¬ (m 305 k = 47) := c58_3
        refine xk_inc1 rfl (p := 74) rfl (n := k) rfl (by omega) (ls' := [(2, ((292 : Nat) : Int)), (0, ((l : Nat) : Int)), (0, ((nN m : Nat) : Int)), (0, ((k + 1 : Nat) : Int))]) rfl ?_
        refine xk_goto rfl ?_
        exact ih1 (by omega)  (xupd u1 293 (8 * (nN m) + k) (m 305 k)) (by exact hi1.n1 (by assumption)) (by exact hi2.up (by decide))
      · replace c58_3 : m 305 k = 47 := Decidable.not_not.mp c58_3
        refine xk_load rfl (p := 62) rfl rfl ?_
        refine xk_getf rfl (p := 65) rfl (xob (ly_m L) (by decide)) (v := (2, ((295 : Nat) : Int))) (xsl2 rfl (ly_mp3 L)) ?_
        refine xk_load rfl (p := 66) rfl rfl ?_
        refine xk_dup2 rfl (p := 67) rfl (show ¬ ((0 : Nat) = 1 ∨ (2 : Nat) = 1) by decide) ?_
        refine xk_ald rfl (p := 68) rfl (v := (0, ((1 + sSl m k : Nat) : Int))) ((xal0 (ly_ms3 L) (show nN m < 12 by omega)).trans (congrArg (fun z => some (0, z)) (((xupd_ne (by omega)).trans ((hi1 295 _ (by decide)).trans ((if_neg (by omega)).trans (if_pos ⟨rfl, rfl⟩))))))) ?_
        refine xk_push rfl (p := 69) rfl ?_
        refine xk_bin rfl (p := 70) rfl (z := ((1 + sSl m k + 1 : Nat) : Int)) (congrArg some (xadd_n (n := 1 + sSl m k) (m := 1) (by omega))) ?_
        refine xk_ast rfl (p := 71) rfl (by decide) rfl (xsk (ly_ms3 L)) (xsn (ly_ms3 L) (show nN m < 12 by omega)) (by omega) ?_
        refine xk_inc1 rfl (p := 74) rfl (n := k) rfl (by omega) (ls' := [(2, ((292 : Nat) : Int)), (0, ((l : Nat) : Int)), (0, ((nN m : Nat) : Int)), (0, ((k + 1 : Nat) : Int))]) rfl ?_
        refine xk_goto rfl ?_
        exact ih1 (by omega)  (xupd (xupd u1 293 (8 * (nN m) + k) (m 305 k)) 295 (nN m) ((1 + sSl m k + 1 : Nat) : Int)) (by exact hi1.n2 (by assumption) (by omega)) (by exact (hi2.up (by decide)).up (by decide))
  exact lp1 0 (by omega)  (xupd (xupd (xupd t 292 0 ((nN m + 1 : Nat) : Int)) 294 (nN m) ((l : Nat) : Int)) 295 (nN m) 1) (by rw [← tN1_0]; exact hM.up.up.up) (by exact ((Md.rf.up (by decide)).up (by decide)).up (by decide))

def sSam (m : xD) : Nat → Int
  | 0 => -1
  | K + 1 => if bTxt m K = true then ((K : Nat) : Int) else sSam m K
theorem sSam_rng {m : xD} : ∀ K, -1 ≤ sSam m K ∧ sSam m K < K
  | 0 => (by decide : (-1 : Int) ≤ -1 ∧ (-1 : Int) < ((0 : Nat) : Int))
  | K + 1 => by
    have := sSam_rng (m := m) K
    unfold sSam
    split <;> omega
def y_name (m : xD) : Option xV × xD := if sFau m = -1 then (if sSam m (nN m) = -1 then (if nN m = 12 then (some (0, -4), xupd m 292 17 0) else (some (0, ((nN m : Nat) : Int)), tN2 (xupd m 292 17 0) (nT m))) else (some (0, sSam m (nN m)), xupd m 292 17 0)) else (some (0, -10 - sFau m), xupd m 292 17 0)
theorem n_name {d : Nat} {g : xG} {t m : xD} (L : xLay g) (hM : Mo t m) (hI : Inv m) (hX : MX m) : xCall (d + 2) 123 [(2, ((292 : Nat) : Int))] g t (yQ g t (y_name m)) := by
  show xOk (d + 2) 123 0 [(2, ((292 : Nat) : Int)), (3, 0), (3, 0), (3, 0)] [] g t _
  have iNn_ := iNn hI
  have iTn_ := iTn hX
  refine xk_load rfl (p := 1) rfl rfl ?_
  refine xk_callp rfl (p := 4) rfl (by decide) rfl (Nat.le_of_ble_eq_true rfl) (Nat.le_of_ble_eq_true rfl) (xrv (ly_m L) (by decide)) (as := [(2, ((292 : Nat) : Int))]) (r := []) rfl (v := (0, sFau m)) (n_fault L hM hI hX) ?_
  have sFau_ := sFau_rng (m := m)
  refine xk_store rfl (p := 5) rfl (by decide) (Nat.le_of_ble_eq_true rfl) (ls' := [(2, ((292 : Nat) : Int)), (0, sFau m), (3, 0), (3, 0)]) rfl ?_
  refine xk_push rfl (p := 6) rfl ?_
  refine xk_store rfl (p := 7) rfl (by decide) (Nat.le_of_ble_eq_true rfl) (ls' := [(2, ((292 : Nat) : Int)), (0, sFau m), (0, (-1)), (3, 0)]) rfl ?_
  refine xk_push rfl (p := 8) rfl ?_
  refine xk_store rfl (p := 9) rfl (by decide) (Nat.le_of_ble_eq_true rfl) (ls' := [(2, ((292 : Nat) : Int)), (0, sFau m), (0, (-1)), (0, 0)]) rfl ?_
  have lp1 : ∀ k : Nat, k ≤ nN m → ∀ (z : Int), (z = sSam m k) → xOk (d + 2) 123 9 [(2, ((292 : Nat) : Int)), (0, sFau m), (0, z), (0, ((k : Nat) : Int))] [] g t (yQ g t (y_name m)) := by
    refine xk_up (nN m) (fun k hkk ih1 z hi1 => ?_)
    refine xk_load rfl (p := 10) rfl rfl ?_
    refine xk_load rfl (p := 11) rfl rfl ?_
    refine xk_getf rfl (p := 14) rfl (xob (ly_m L) (by decide)) (v := (0, ((nN m : Nat) : Int))) (xsl0 rfl ((hM 292 0 (by decide)).trans (iNn hI).1)) ?_
    have iNn_ := iNn hI
    refine xk_icmp rfl (p := 17) rfl (fun c14_2 => ?_) (fun c14_2 => ?_)
    · replace c14_2 : ((nN m : Nat) : Int) ≤ ((k : Nat) : Int) := c14_2
      refine xk_load rfl (p := 34) rfl rfl ?_
      refine xk_getf rfl (p := 37) rfl (xob (ly_m L) (by decide)) (v := (0, ((nT m : Nat) : Int))) (xsl0 rfl ((hM 292 17 (by decide)).trans (iTn hX).1)) ?_
      have iTn_ := iTn hX
      refine xk_store rfl (p := 38) rfl (by decide) (Nat.le_of_ble_eq_true rfl) (ls' := [(2, ((292 : Nat) : Int)), (0, sFau m), (0, z), (0, ((nT m : Nat) : Int))]) rfl ?_
      refine xk_load rfl (p := 39) rfl rfl ?_
      refine xk_push rfl (p := 40) rfl ?_
      refine xk_putf rfl (p := 43) rfl (xob (ly_m L) (by decide)) rfl (by decide) (by decide) (fun h => absurd h (by decide)) (by omega) ?_
      refine xk_load rfl (p := 44) rfl rfl ?_
      refine xk_push rfl (p := 45) rfl ?_
      refine xk_icmp rfl (p := 48) rfl (fun c45_3 => ?_) (fun c45_3 => ?_)
      · replace c45_3 : sFau m = (-1) := c45_3
        refine xk_load rfl (p := 54) rfl rfl ?_
        refine xk_push rfl (p := 55) rfl ?_
        refine xk_icmp rfl (p := 58) rfl (fun c55_4 => ?_) (fun c55_4 => ?_)
        · replace c55_4 : z = (-1) := c55_4
          refine xk_load rfl (p := 61) rfl rfl ?_
          refine xk_getf rfl (p := 64) rfl (xob (ly_m L) (by decide)) (v := (0, ((nN m : Nat) : Int))) (xsl0 rfl ((xupd_ne (by omega)).trans ((hM 292 0 (by decide)).trans (iNn hI).1))) ?_
          have iNn_ := iNn hI
          refine xk_push rfl (p := 66) rfl ?_
          refine xk_icmp rfl (p := 69) rfl (fun c66_5 => ?_) (fun c66_5 => ?_)
          · replace c66_5 : ¬ (((nN m : Nat) : Int) = 12) := c66_5
            refine xk_load rfl (p := 75) rfl rfl ?_
            refine xk_load rfl (p := 76) rfl rfl ?_
            refine xk_call rfl (p := 79) rfl (by decide) rfl (Nat.le_of_ble_eq_true rfl) (Nat.le_of_ble_eq_true rfl) (xrv (ly_m L) (by decide)) (as := [(2, ((292 : Nat) : Int)), (0, ((nT m : Nat) : Int))]) (r := []) rfl (n_newName (m := xupd m 292 17 0) L hM.up hI (show nT m ≤ 8 from (sFau_no (by omega)).2.1) (show nN m < 12 by omega)) ?_
            rintro _ g u2 ⟨rfl, rfl, hM2, hD2⟩
            refine xk_ret rfl (rfl) ?_
            rw [show k = nN m by omega] at hi1
            exact yRet (by unfold y_name; (repeat' split) <;> first | rfl | (exfalso; omega) | (rw [hi1])) hM2 ((Md.rf.up (by decide)).tr hD2)
          · replace c66_5 : ((nN m : Nat) : Int) = 12 := Decidable.not_not.mp c66_5
            refine xk_push rfl (p := 71) rfl ?_
            refine xk_goto rfl ?_
            refine xk_ret rfl (rfl) ?_
            rw [show k = nN m by omega] at hi1
            exact yRet (by unfold y_name; (repeat' split) <;> first | rfl | (exfalso; omega) | (rw [hi1])) hM.up (Md.rf.up (by decide))
        · replace c55_4 : ¬ (z = (-1)) := c55_4
          refine xk_load rfl (p := 59) rfl rfl ?_
          refine xk_ret rfl (rfl) ?_
          rw [show k = nN m by omega] at hi1
          exact yRet (by unfold y_name; (repeat' split) <;> first | rfl | (exfalso; omega) | (rw [hi1])) hM.up (Md.rf.up (by decide))
      · replace c45_3 : ¬ (sFau m = (-1)) := c45_3
        refine xk_push rfl (p := 50) rfl ?_
        refine xk_load rfl (p := 51) rfl rfl ?_
        refine xk_bin rfl (p := 52) rfl (z := ((-10) - sFau m)) (congrArg some (xsub_r (by omega) (by omega))) ?_
        refine xk_ret rfl (rfl) ?_
        rw [show k = nN m by omega] at hi1
        exact yRet (by unfold y_name; (repeat' split) <;> first | rfl | (exfalso; omega) | (rw [hi1])) hM.up (Md.rf.up (by decide))
    · replace c14_2 : ¬ (((nN m : Nat) : Int) ≤ ((k : Nat) : Int)) := c14_2
      refine xk_load rfl (p := 18) rfl rfl ?_
      refine xk_load rfl (p := 19) rfl rfl ?_
      refine xk_callp rfl (p := 22) rfl (by decide) rfl (Nat.le_of_ble_eq_true rfl) (Nat.le_of_ble_eq_true rfl) (xrv (ly_m L) (by decide)) (as := [(2, ((292 : Nat) : Int)), (0, ((k : Nat) : Int))]) (r := []) rfl (v := (0, (if bTxt m k = true then (1 : Int) else 0))) (n_isText L hM hI hX (show k < nN m by omega)) ?_
      refine xk_if rfl (p := 25) rfl (fun c22_6 => ?_) (fun c22_6 => ?_)
      · replace c22_6 : ¬ (bTxt m k = true) := xb_e0 c22_6
        refine xk_inc1 rfl (p := 30) rfl (n := k) rfl (by omega) (ls' := [(2, ((292 : Nat) : Int)), (0, sFau m), (0, z), (0, ((k + 1 : Nat) : Int))]) rfl ?_
        refine xk_goto rfl ?_
        exact ih1 (by omega) z (by first | exact (if_pos (by assumption)).symm | exact hi1.trans (if_neg (by assumption)).symm)
      · replace c22_6 : bTxt m k = true := xb_n0 c22_6
        refine xk_load rfl (p := 26) rfl rfl ?_
        refine xk_store rfl (p := 27) rfl (by decide) (Nat.le_of_ble_eq_true rfl) (ls' := [(2, ((292 : Nat) : Int)), (0, sFau m), (0, ((k : Nat) : Int)), (0, ((k : Nat) : Int))]) rfl ?_
        refine xk_inc1 rfl (p := 30) rfl (n := k) rfl (by omega) (ls' := [(2, ((292 : Nat) : Int)), (0, sFau m), (0, ((k : Nat) : Int)), (0, ((k + 1 : Nat) : Int))]) rfl ?_
        refine xk_goto rfl ?_
        exact ih1 (by omega) ((k : Nat) : Int) (by first | exact (if_pos (by assumption)).symm | exact hi1.trans (if_neg (by assumption)).symm)
  exact lp1 0 (by omega) (-1) (by rfl)
