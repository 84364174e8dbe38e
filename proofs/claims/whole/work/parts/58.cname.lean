/-! THE CLASS: NAME -/
def NK (t : xD) (s : Nat) (w : xD) : Prop := ∀ n, n < nN w → t (18 + 89 * s + 5 * n) 1 = kK w n ∧ t (18 + 89 * s + 5 * n) 2 = w 294 n ∧ t (18 + 89 * s + 5 * n) 3 = w 295 n
/-- nothing but the kin has changed -/
def Kx (s : Nat) (t u : xD) : Prop := ∀ b j, ¬ (18 + 89 * s ≤ b ∧ b < 78 + 89 * s ∧ j = 4 ∧ (b - (18 + 89 * s)) % 5 = 0) → u b j = t b j
theorem Kx.rf {s : Nat} {t : xD} : Kx s t t := fun _ _ _ => rfl
theorem Kx.up {s : Nat} {t u : xD} (h : Kx s t u) {n : Nat} {x : Int} (hn : n < 12) : Kx s t (xupd u (18 + 89 * s + 5 * n) 4 x) := fun b j hh => (xupd_ne (by omega)).trans (h b j hh)
theorem NK.kx {t u w : xD} {s : Nat} (h : NK t s w) (hN : nN w ≤ 12) (k : Kx s t u) : NK u s w := fun n hn => by
  have p := h n hn
  exact ⟨(k _ _ (by omega)).trans p.1, (k _ _ (by omega)).trans p.2.1, (k _ _ (by omega)).trans p.2.2⟩
theorem c_isFolderOf2 {d : Nat} {g : xG} {t m : xD} {s : Nat} {n o : Nat} (L : xLay g) (hs : s < 3) (hI : Inv m) (hK : NK t s m) (hn : n < nN m) (ho : o < nN m) : xCall (d) 17 [(2, (((18 + 89 * s + 5 * n) : Nat) : Int)), (2, (((18 + 89 * s + 5 * o) : Nat) : Int))] g t (xQ g t (some (0, if bFol m n o = true then (1 : Int) else 0))) := by
  show xOk (d) 17 0 [(2, (((18 + 89 * s + 5 * n) : Nat) : Int)), (2, (((18 + 89 * s + 5 * o) : Nat) : Int)), (3, 0)] [] g t _
  have iNn_ := iNn hI
  have iLn0_ := iLn hI hn
  refine xk_load rfl (p := 1) rfl rfl ?_
  refine xk_getf rfl (p := 4) rfl (xob ((ly_nm L hs (show n < 12 by omega)).1) (by decide)) (v := (0, m 295 n)) (xsl0 rfl ((hK n (show n < nN m by omega)).2.2)) ?_
  refine xk_load rfl (p := 5) rfl rfl ?_
  refine xk_getf rfl (p := 8) rfl (xob ((ly_nm L hs (show o < 12 by omega)).1) (by decide)) (v := (0, m 295 o)) (xsl0 rfl ((hK o (show o < nN m by omega)).2.2)) ?_
  refine xk_icmp rfl (p := 11) rfl (fun c8_1 => ?_) (fun c8_1 => ?_)
  · replace c8_1 : m 295 o ≤ m 295 n := c8_1
    refine xk_push rfl (p := 21) rfl ?_
    refine xk_rete rfl (rfl) ?_
    exact (if_neg (fun h => by have h := (bFol_key hI hn ho).mp h; omega)).symm
  · replace c8_1 : ¬ (m 295 o ≤ m 295 n) := c8_1
    refine xk_load rfl (p := 12) rfl rfl ?_
    refine xk_getf rfl (p := 15) rfl (xob ((ly_nm L hs (show n < 12 by omega)).1) (by decide)) (v := (0, ((nL m n : Nat) : Int))) (xsl0 rfl (((hK n (show n < nN m by omega)).2.1).trans (iLn hI (show n < nN m by omega)).1)) ?_
    have iLn_ := iLn hI (show n < nN m by omega)
    refine xk_push rfl (p := 17) rfl ?_
    refine xk_icmp rfl (p := 20) rfl (fun c17_2 => ?_) (fun c17_2 => ?_)
    · replace c17_2 : ((nL m n : Nat) : Int) < 8 := c17_2
      refine xk_push rfl (p := 24) rfl ?_
      refine xk_push rfl (p := 26) rfl ?_
      refine xk_load rfl (p := 27) rfl rfl ?_
      refine xk_getf rfl (p := 30) rfl (xob ((ly_nm L hs (show n < 12 by omega)).1) (by decide)) (v := (0, ((nL m n : Nat) : Int))) (xsl0 rfl (((hK n (show n < nN m by omega)).2.1).trans (iLn hI (show n < nN m by omega)).1)) ?_
      have iLn_ := iLn hI (show n < nN m by omega)
      refine xk_bin rfl (p := 31) rfl (z := (8 - ((nL m n : Nat) : Int))) (congrArg some (xsub_r (by omega) (by omega))) ?_
      refine xk_push rfl (p := 32) rfl ?_
      refine xk_bin rfl (p := 33) rfl (z := ((8 - ((nL m n : Nat) : Int)) - 1)) (congrArg some (xsub_r (by omega) (by omega))) ?_
      refine xk_bin rfl (p := 34) rfl (z := (8 * ((8 - ((nL m n : Nat) : Int)) - 1))) (congrArg some (xmul_r (by omega) (by omega))) ?_
      refine xk_store rfl (p := 35) rfl (by decide) (Nat.le_of_ble_eq_true rfl) (ls' := [(2, (((18 + 89 * s + 5 * n) : Nat) : Int)), (2, (((18 + 89 * s + 5 * o) : Nat) : Int)), (0, (8 * ((8 - ((nL m n : Nat) : Int)) - 1)))]) rfl ?_
      refine xk_load rfl (p := 36) rfl rfl ?_
      refine xk_getf rfl (p := 39) rfl (xob ((ly_nm L hs (show o < 12 by omega)).1) (by decide)) (v := (1, kK m o)) (xsl1 rfl ((hK o (show o < nN m by omega)).1)) ?_
      refine xk_load rfl (p := 40) rfl rfl ?_
      refine xk_lbin rfl (p := 41) rfl rfl (w := (1, kP m o (nL m n + 1))) (congrArg (fun z => some ((1, z) : xV)) (key_up hI ho (i := nL m n + 1) (by omega) (by omega) (by omega))) ?_
      refine xk_load rfl (p := 42) rfl rfl ?_
      refine xk_getf rfl (p := 45) rfl (xob ((ly_nm L hs (show n < 12 by omega)).1) (by decide)) (v := (1, kK m n)) (xsl1 rfl ((hK n (show n < nN m by omega)).1)) ?_
      refine xk_load rfl (p := 46) rfl rfl ?_
      refine xk_lbin rfl (p := 47) rfl rfl (w := (1, (kP m n (nL m n) * 256))) (congrArg (fun z => some ((1, z) : xV)) ((key_up hI hn (i := nL m n + 1) (by omega) (by omega) (by omega)).trans (by rw [kP_succ, dg_ge hI hn (Nat.le_refl _)]; omega))) ?_
      refine xk_push rfl (p := 50) rfl ?_
      refine xk_lbin rfl (p := 51) rfl rfl (w := (1, (kP m n (nL m n) * 256 + 47))) (congrArg (fun z => some ((1, z) : xV)) (key_sl hI hn (by omega))) ?_
      have xl := @xlcmp_c (kP m o (nL m n + 1)) (kP m n (nL m n) * 256 + 47)
      refine xk_lbin rfl (p := 52) rfl rfl (w := (0, xlcmp (kP m o (nL m n + 1)) (kP m n (nL m n) * 256 + 47))) (rfl) ?_
      refine xk_if rfl (p := 55) rfl (fun c52_3 => ?_) (fun c52_3 => ?_)
      · replace c52_3 : ¬ (xlcmp (kP m o (nL m n + 1)) (kP m n (nL m n) * 256 + 47) = 0) := c52_3
        refine xk_push rfl (p := 60) rfl ?_
        refine xk_rete rfl (rfl) ?_
        exact (if_neg (fun h => by have h := (bFol_key hI hn ho).mp h; omega)).symm
      · replace c52_3 : xlcmp (kP m o (nL m n + 1)) (kP m n (nL m n) * 256 + 47) = 0 := Decidable.not_not.mp c52_3
        refine xk_push rfl (p := 56) rfl ?_
        refine xk_goto rfl ?_
        refine xk_rete rfl (rfl) ?_
        exact (if_pos ((bFol_key hI hn ho).mpr ⟨by omega, by omega, by omega⟩)).symm
    · replace c17_2 : ¬ (((nL m n : Nat) : Int) < 8) := c17_2
      refine xk_push rfl (p := 21) rfl ?_
      refine xk_rete rfl (rfl) ?_
      exact (if_neg (fun h => by have h := (bFol_key hI hn ho).mp h; omega)).symm

theorem jk_ne {i k z y : Nat} {P : Prop} [Decidable P] (c : ¬ i = k) : (if i < k ∧ P then z else y) = (if i < k + 1 ∧ P then z else y) := by
  by_cases h : i < k ∧ P
  · rw [if_pos h, if_pos ⟨by omega, h.2⟩]
  · rw [if_neg h, if_neg (fun hh => h ⟨by omega, hh.2⟩)]
theorem c_joinKin {d : Nat} {g : xG} {t m : xD} {s : Nat} {N : Nat} {K0 : Nat → Nat} (L : xLay g) (hs : s < 3) (hI : Inv m) (hK : NK t s m) (hN : nN m = N + 1) (hK0 : ∀ i, i < N → K0 i < 4096) (h0 : ∀ i, i < N → t (18 + 89 * s + 5 * i) 4 = ((K0 i : Nat) : Int)) (h9 : t (18 + 89 * s + 5 * N) 4 = 0) : xCall (d + 1) 34 [(2, (((5 + 89 * s) : Nat) : Int)), (0, ((N : Nat) : Int))] g t (fun r g1 t1 => g1 = g ∧ r = none ∧ Kx s t t1 ∧ (∀ i, i < N → t1 (18 + 89 * s + 5 * i) 4 = ((if i < N ∧ bCla m i N = true then K0 i ||| 2 ^ N else K0 i : Nat) : Int)) ∧ t1 (18 + 89 * s + 5 * N) 4 = ((xbs (fun j => bCla m N j) N : Nat) : Int)) := by
  show xOk (d + 1) 34 0 [(2, (((5 + 89 * s) : Nat) : Int)), (0, ((N : Nat) : Int)), (3, 0)] [] g t _
  have iNn_ := iNn hI
  refine xk_push rfl (p := 1) rfl ?_
  refine xk_store rfl (p := 2) rfl (by decide) (Nat.le_of_ble_eq_true rfl) (ls' := [(2, (((5 + 89 * s) : Nat) : Int)), (0, ((N : Nat) : Int)), (0, 0)]) rfl ?_
  have lp1 : ∀ k : Nat, k ≤ N → ∀ (u1 : xD), (Kx s t u1) → (∀ i, i < N → u1 (18 + 89 * s + 5 * i) 4 = ((if i < k ∧ bCla m i N = true then K0 i ||| 2 ^ N else K0 i : Nat) : Int)) → (u1 (18 + 89 * s + 5 * N) 4 = ((xbs (fun j => bCla m N j) k : Nat) : Int)) → xOk (d + 1) 34 2 [(2, (((5 + 89 * s) : Nat) : Int)), (0, ((N : Nat) : Int)), (0, ((k : Nat) : Int))] [] g u1 (fun r g1 t1 => g1 = g ∧ r = none ∧ Kx s t t1 ∧ (∀ i, i < N → t1 (18 + 89 * s + 5 * i) 4 = ((if i < N ∧ bCla m i N = true then K0 i ||| 2 ^ N else K0 i : Nat) : Int)) ∧ t1 (18 + 89 * s + 5 * N) 4 = ((xbs (fun j => bCla m N j) N : Nat) : Int)) := by
    refine xk_up N (fun k hkk ih1  u1 h1_1 h1_2 h1_3 => ?_)
    refine xk_load rfl (p := 3) rfl rfl ?_
    refine xk_load rfl (p := 4) rfl rfl ?_
    refine xk_icmp rfl (p := 7) rfl (fun c4_2 => ?_) (fun c4_2 => ?_)
    · replace c4_2 : ((N : Nat) : Int) ≤ ((k : Nat) : Int) := c4_2
      refine xk_ret rfl (rfl) ?_
      have kn : k = N := by omega
      subst kn
      exact ⟨rfl, rfl, h1_1, h1_2, h1_3⟩
    · replace c4_2 : ¬ (((N : Nat) : Int) ≤ ((k : Nat) : Int)) := c4_2
      refine xk_load rfl (p := 8) rfl rfl ?_
      refine xk_getf rfl (p := 11) rfl (xob (ly_st L hs) (by decide)) (v := (2, (((6 + 89 * s) : Nat) : Int))) (xsl2 rfl (ly_s0 L hs)) ?_
      refine xk_load rfl (p := 12) rfl rfl ?_
      refine xk_ald rfl (p := 13) rfl (v := (2, (((18 + 89 * s + 5 * k) : Nat) : Int))) (xal2 (ly_sn L hs) (by decide) (show k < 12 by omega) (ly_ne L hs (show k < 12 by omega))) ?_
      refine xk_load rfl (p := 14) rfl rfl ?_
      refine xk_getf rfl (p := 17) rfl (xob (ly_st L hs) (by decide)) (v := (2, (((6 + 89 * s) : Nat) : Int))) (xsl2 rfl (ly_s0 L hs)) ?_
      refine xk_load rfl (p := 18) rfl rfl ?_
      refine xk_ald rfl (p := 19) rfl (v := (2, (((18 + 89 * s + 5 * N) : Nat) : Int))) (xal2 (ly_sn L hs) (by decide) (show N < 12 by omega) (ly_ne L hs (show N < 12 by omega))) ?_
      refine xk_callp rfl (p := 22) rfl (by decide) rfl (Nat.le_of_ble_eq_true rfl) (Nat.le_of_ble_eq_true rfl) (xrv ((ly_nm L hs (show k < 12 by omega)).1) (by decide)) (as := [(2, (((18 + 89 * s + 5 * k) : Nat) : Int)), (2, (((18 + 89 * s + 5 * N) : Nat) : Int))]) (r := []) rfl (v := (0, (if bFol m k N = true then (1 : Int) else 0))) (c_isFolderOf2 L hs hI (hK.kx (by omega) h1_1) (show k < nN m by omega) (show N < nN m by omega)) ?_
      refine xk_if rfl (p := 25) rfl (fun c22_3 => ?_) (fun c22_3 => ?_)
      · replace c22_3 : bFol m k N = true := xb_n0 c22_3
        refine xk_load rfl (p := 44) rfl rfl ?_
        refine xk_getf rfl (p := 47) rfl (xob (ly_st L hs) (by decide)) (v := (2, (((6 + 89 * s) : Nat) : Int))) (xsl2 rfl (ly_s0 L hs)) ?_
        refine xk_load rfl (p := 48) rfl rfl ?_
        refine xk_ald rfl (p := 49) rfl (v := (2, (((18 + 89 * s + 5 * k) : Nat) : Int))) (xal2 (ly_sn L hs) (by decide) (show k < 12 by omega) (ly_ne L hs (show k < 12 by omega))) ?_
        refine xk_dup rfl (p := 50) rfl (show ¬ (2 : Nat) = 1 by decide) ?_
        refine xk_getf rfl (p := 53) rfl (xob ((ly_nm L hs (show k < 12 by omega)).1) (by decide)) (v := (0, ((K0 k : Nat) : Int))) (xsl0 rfl ((h1_2 k (by omega)).trans (congrArg (fun z : Nat => ((z : Nat) : Int)) (if_neg (by omega))))) ?_
        refine xk_push rfl (p := 54) rfl ?_
        refine xk_load rfl (p := 55) rfl rfl ?_
        refine xk_bin rfl (p := 56) rfl (z := ((2 ^ N : Nat) : Int)) (congrArg some (xshl_n (by omega))) ?_
        refine xk_bin rfl (p := 57) rfl (z := (((K0 k) ||| (2 ^ N) : Nat) : Int)) (congrArg some (xor_s (hK0 k (by omega)) (p12 (by omega)))) ?_
        refine xk_putf rfl (p := 60) rfl (xob ((ly_nm L hs (show k < 12 by omega)).1) (by decide)) rfl (by decide) (by decide) (fun h => absurd h (by decide)) (by omega) ?_
        refine xk_load rfl (p := 61) rfl rfl ?_
        refine xk_getf rfl (p := 64) rfl (xob (ly_st L hs) (by decide)) (v := (2, (((6 + 89 * s) : Nat) : Int))) (xsl2 rfl (ly_s0 L hs)) ?_
        refine xk_load rfl (p := 65) rfl rfl ?_
        refine xk_ald rfl (p := 66) rfl (v := (2, (((18 + 89 * s + 5 * N) : Nat) : Int))) (xal2 (ly_sn L hs) (by decide) (show N < 12 by omega) (ly_ne L hs (show N < 12 by omega))) ?_
        refine xk_dup rfl (p := 67) rfl (show ¬ (2 : Nat) = 1 by decide) ?_
        refine xk_getf rfl (p := 70) rfl (xob ((ly_nm L hs (show N < 12 by omega)).1) (by decide)) (v := (0, ((xbs (fun j => bCla m N j) k : Nat) : Int))) (xsl0 rfl ((xupd_ne (by omega)).trans (h1_3))) ?_
        refine xk_push rfl (p := 71) rfl ?_
        refine xk_load rfl (p := 72) rfl rfl ?_
        refine xk_bin rfl (p := 73) rfl (z := ((2 ^ k : Nat) : Int)) (congrArg some (xshl_n (by omega))) ?_
        refine xk_bin rfl (p := 74) rfl (z := (((xbs (fun j => bCla m N j) k) ||| (2 ^ k) : Nat) : Int)) (congrArg some (xor_s (xbs_lt (by omega)) (p12 (by omega)))) ?_
        refine xk_putf rfl (p := 77) rfl (xob ((ly_nm L hs (show N < 12 by omega)).1) (by decide)) rfl (by decide) (by decide) (fun h => absurd h (by decide)) (by omega) ?_
        refine xk_inc1 rfl (p := 80) rfl (n := k) rfl (by omega) (ls' := [(2, (((5 + 89 * s) : Nat) : Int)), (0, ((N : Nat) : Int)), (0, ((k + 1 : Nat) : Int))]) rfl ?_
        refine xk_goto rfl ?_
        exact ih1 (by omega)  (xupd (xupd u1 (18 + 89 * s + 5 * k) 4 (((K0 k) ||| (2 ^ N) : Nat) : Int)) (18 + 89 * s + 5 * N) 4 (((xbs (fun j => bCla m N j) k) ||| (2 ^ k) : Nat) : Int)) (by exact (h1_1.up (by omega)).up (by omega)) (by exact fun i hi => dite (i = k) (fun ci => by subst ci; exact (xupd_ne (by omega)).trans (xupd_eq.trans (congrArg (fun z : Nat => ((z : Nat) : Int)) (if_pos ⟨by omega, bCla_or.mpr (by first | exact Or.inl (by assumption) | exact Or.inr (by assumption))⟩).symm))) (fun ci => (xupd_ne (by omega)).trans ((xupd_ne (by omega)).trans ((h1_2 i hi).trans (congrArg (fun z : Nat => ((z : Nat) : Int)) (jk_ne ci)))))) (by exact xupd_eq.trans (congrArg (fun z : Nat => ((z : Nat) : Int)) (xbs_in rfl (bCla_or.mpr (by first | exact Or.inl (by assumption) | exact Or.inr (by assumption))))))
      · replace c22_3 : ¬ (bFol m k N = true) := xb_e1 c22_3
        refine xk_load rfl (p := 26) rfl rfl ?_
        refine xk_getf rfl (p := 29) rfl (xob (ly_st L hs) (by decide)) (v := (2, (((6 + 89 * s) : Nat) : Int))) (xsl2 rfl (ly_s0 L hs)) ?_
        refine xk_load rfl (p := 30) rfl rfl ?_
        refine xk_ald rfl (p := 31) rfl (v := (2, (((18 + 89 * s + 5 * N) : Nat) : Int))) (xal2 (ly_sn L hs) (by decide) (show N < 12 by omega) (ly_ne L hs (show N < 12 by omega))) ?_
        refine xk_load rfl (p := 32) rfl rfl ?_
        refine xk_getf rfl (p := 35) rfl (xob (ly_st L hs) (by decide)) (v := (2, (((6 + 89 * s) : Nat) : Int))) (xsl2 rfl (ly_s0 L hs)) ?_
        refine xk_load rfl (p := 36) rfl rfl ?_
        refine xk_ald rfl (p := 37) rfl (v := (2, (((18 + 89 * s + 5 * k) : Nat) : Int))) (xal2 (ly_sn L hs) (by decide) (show k < 12 by omega) (ly_ne L hs (show k < 12 by omega))) ?_
        refine xk_callp rfl (p := 40) rfl (by decide) rfl (Nat.le_of_ble_eq_true rfl) (Nat.le_of_ble_eq_true rfl) (xrv ((ly_nm L hs (show N < 12 by omega)).1) (by decide)) (as := [(2, (((18 + 89 * s + 5 * N) : Nat) : Int)), (2, (((18 + 89 * s + 5 * k) : Nat) : Int))]) (r := []) rfl (v := (0, (if bFol m N k = true then (1 : Int) else 0))) (c_isFolderOf2 L hs hI (hK.kx (by omega) h1_1) (show N < nN m by omega) (show k < nN m by omega)) ?_
        refine xk_if rfl (p := 43) rfl (fun c40_4 => ?_) (fun c40_4 => ?_)
        · replace c40_4 : ¬ (bFol m N k = true) := xb_e0 c40_4
          refine xk_inc1 rfl (p := 80) rfl (n := k) rfl (by omega) (ls' := [(2, (((5 + 89 * s) : Nat) : Int)), (0, ((N : Nat) : Int)), (0, ((k + 1 : Nat) : Int))]) rfl ?_
          refine xk_goto rfl ?_
          exact ih1 (by omega)  u1 (by exact h1_1) (by exact fun i hi => dite (i = k) (fun ci => by subst ci; exact (h1_2 i hi).trans (congrArg (fun z : Nat => ((z : Nat) : Int)) ((if_neg (by omega)).trans (if_neg (fun h => (bCla_or.mp h.2).elim (by assumption) (by assumption))).symm))) (fun ci => (h1_2 i hi).trans (congrArg (fun z : Nat => ((z : Nat) : Int)) (jk_ne ci)))) (by exact h1_3.trans (congrArg (fun z : Nat => ((z : Nat) : Int)) (xbs_out rfl (fun h => (bCla_or.mp h).elim (by assumption) (by assumption)))))
        · replace c40_4 : bFol m N k = true := xb_n0 c40_4
          refine xk_load rfl (p := 44) rfl rfl ?_
          refine xk_getf rfl (p := 47) rfl (xob (ly_st L hs) (by decide)) (v := (2, (((6 + 89 * s) : Nat) : Int))) (xsl2 rfl (ly_s0 L hs)) ?_
          refine xk_load rfl (p := 48) rfl rfl ?_
          refine xk_ald rfl (p := 49) rfl (v := (2, (((18 + 89 * s + 5 * k) : Nat) : Int))) (xal2 (ly_sn L hs) (by decide) (show k < 12 by omega) (ly_ne L hs (show k < 12 by omega))) ?_
          refine xk_dup rfl (p := 50) rfl (show ¬ (2 : Nat) = 1 by decide) ?_
          refine xk_getf rfl (p := 53) rfl (xob ((ly_nm L hs (show k < 12 by omega)).1) (by decide)) (v := (0, ((K0 k : Nat) : Int))) (xsl0 rfl ((h1_2 k (by omega)).trans (congrArg (fun z : Nat => ((z : Nat) : Int)) (if_neg (by omega))))) ?_
          refine xk_push rfl (p := 54) rfl ?_
          refine xk_load rfl (p := 55) rfl rfl ?_
          refine xk_bin rfl (p := 56) rfl (z := ((2 ^ N : Nat) : Int)) (congrArg some (xshl_n (by omega))) ?_
          refine xk_bin rfl (p := 57) rfl (z := (((K0 k) ||| (2 ^ N) : Nat) : Int)) (congrArg some (xor_s (hK0 k (by omega)) (p12 (by omega)))) ?_
          refine xk_putf rfl (p := 60) rfl (xob ((ly_nm L hs (show k < 12 by omega)).1) (by decide)) rfl (by decide) (by decide) (fun h => absurd h (by decide)) (by omega) ?_
          refine xk_load rfl (p := 61) rfl rfl ?_
          refine xk_getf rfl (p := 64) rfl (xob (ly_st L hs) (by decide)) (v := (2, (((6 + 89 * s) : Nat) : Int))) (xsl2 rfl (ly_s0 L hs)) ?_
          refine xk_load rfl (p := 65) rfl rfl ?_
          refine xk_ald rfl (p := 66) rfl (v := (2, (((18 + 89 * s + 5 * N) : Nat) : Int))) (xal2 (ly_sn L hs) (by decide) (show N < 12 by omega) (ly_ne L hs (show N < 12 by omega))) ?_
          refine xk_dup rfl (p := 67) rfl (show ¬ (2 : Nat) = 1 by decide) ?_
          refine xk_getf rfl (p := 70) rfl (xob ((ly_nm L hs (show N < 12 by omega)).1) (by decide)) (v := (0, ((xbs (fun j => bCla m N j) k : Nat) : Int))) (xsl0 rfl ((xupd_ne (by omega)).trans (h1_3))) ?_
          refine xk_push rfl (p := 71) rfl ?_
          refine xk_load rfl (p := 72) rfl rfl ?_
          refine xk_bin rfl (p := 73) rfl (z := ((2 ^ k : Nat) : Int)) (congrArg some (xshl_n (by omega))) ?_
          refine xk_bin rfl (p := 74) rfl (z := (((xbs (fun j => bCla m N j) k) ||| (2 ^ k) : Nat) : Int)) (congrArg some (xor_s (xbs_lt (by omega)) (p12 (by omega)))) ?_
          refine xk_putf rfl (p := 77) rfl (xob ((ly_nm L hs (show N < 12 by omega)).1) (by decide)) rfl (by decide) (by decide) (fun h => absurd h (by decide)) (by omega) ?_
          refine xk_inc1 rfl (p := 80) rfl (n := k) rfl (by omega) (ls' := [(2, (((5 + 89 * s) : Nat) : Int)), (0, ((N : Nat) : Int)), (0, ((k + 1 : Nat) : Int))]) rfl ?_
          refine xk_goto rfl ?_
          exact ih1 (by omega)  (xupd (xupd u1 (18 + 89 * s + 5 * k) 4 (((K0 k) ||| (2 ^ N) : Nat) : Int)) (18 + 89 * s + 5 * N) 4 (((xbs (fun j => bCla m N j) k) ||| (2 ^ k) : Nat) : Int)) (by exact (h1_1.up (by omega)).up (by omega)) (by exact fun i hi => dite (i = k) (fun ci => by subst ci; exact (xupd_ne (by omega)).trans (xupd_eq.trans (congrArg (fun z : Nat => ((z : Nat) : Int)) (if_pos ⟨by omega, bCla_or.mpr (by first | exact Or.inl (by assumption) | exact Or.inr (by assumption))⟩).symm))) (fun ci => (xupd_ne (by omega)).trans ((xupd_ne (by omega)).trans ((h1_2 i hi).trans (congrArg (fun z : Nat => ((z : Nat) : Int)) (jk_ne ci)))))) (by exact xupd_eq.trans (congrArg (fun z : Nat => ((z : Nat) : Int)) (xbs_in rfl (bCla_or.mpr (by first | exact Or.inl (by assumption) | exact Or.inr (by assumption))))))
  exact lp1 0 (by omega)  t (by exact Kx.rf) (by exact fun i hi => (h0 i hi).trans (congrArg (fun z : Nat => ((z : Nat) : Int)) (if_neg (by omega)).symm)) (by exact h9)

theorem TX.up {t m : xD} (h : TX t m) {a k : Nat} {x : Int} (ha : 5 ≤ a) : TX (xupd t a k x) m := ⟨(xupd_ne (by omega)).trans h.1, fun i hi => (xupd_ne (by omega)).trans (h.2 i hi)⟩
theorem TX.fr {t u m : xD} (h : TX t m) (f : ∀ b j, b = 3 ∨ b = 4 → u b j = t b j) : TX u m := ⟨(f _ _ (by decide)).trans h.1, fun i hi => (f _ _ (by decide)).trans (h.2 i hi)⟩
theorem xadd_nx {n : Nat} (h : n < 1000) : xadd ((n : Nat) : Int) 1 = ((n + 1 : Nat) : Int) := xadd_r (by omega) (by omega)
theorem c_begin {d : Nat} {g : xG} {t m : xD} {s n : Nat} (L : xLay g) (hs : s < 3) (hT : TX t m) (hX : MX m) (hn : n < 12) : xCall (d + 1) 15 [(2, (((18 + 89 * s + 5 * n) : Nat) : Int)), (2, ((3 : Nat) : Int))] g t (fun r g1 t1 => g1 = g ∧ r = none ∧ (t1 (18 + 89 * s + 5 * n) 1 = tP m 8 ∧ t1 (18 + 89 * s + 5 * n) 2 = ((nT m : Nat) : Int) ∧ t1 (18 + 89 * s + 5 * n) 3 = ((1 + sSl m (nT m) : Nat) : Int) ∧ t1 (18 + 89 * s + 5 * n) 4 = 0 ∧ t1 (18 + 89 * s + 5 * n) 5 = 0 ∧ t1 (18 + 89 * s + 5 * n) 6 = 0 ∧ t1 (18 + 89 * s + 5 * n) 7 = 0 ∧ t1 (18 + 89 * s + 5 * n + 1) 3 = 0) ∧ ∀ b j, ¬ (18 + 89 * s + 5 * n ≤ b ∧ b < 20 + 89 * s + 5 * n) → t1 b j = t b j) := by
  show xOk (d + 1) 15 0 [(2, (((18 + 89 * s + 5 * n) : Nat) : Int)), (2, ((3 : Nat) : Int))] [] g t _
  have iTn_ := iTn hX
  refine xk_load rfl (p := 1) rfl rfl ?_
  refine xk_load rfl (p := 2) rfl rfl ?_
  refine xk_callp rfl (p := 5) rfl (by decide) rfl (Nat.le_of_ble_eq_true rfl) (Nat.le_of_ble_eq_true rfl) (xrv ((ly_tx L).1) (by decide)) (as := [(2, ((3 : Nat) : Int))]) (r := [(2, (((18 + 89 * s + 5 * n) : Nat) : Int))]) rfl (v := (1, tP m 8)) (c_key L (hT) hX) ?_
  refine xk_putf rfl (p := 8) rfl (xob ((ly_nm L hs (show n < 12 by omega)).1) (by decide)) rfl (by decide) (by decide) (fun h => absurd h (by decide)) (by omega) ?_
  refine xk_load rfl (p := 9) rfl rfl ?_
  refine xk_load rfl (p := 10) rfl rfl ?_
  refine xk_getf rfl (p := 13) rfl (xob ((ly_tx L).1) (by decide)) (v := (0, ((nT m : Nat) : Int))) (xsl0 rfl ((xupd_ne (by omega)).trans (hT.1.trans (iTn hX).1))) ?_
  have iTn_ := iTn hX
  refine xk_putf rfl (p := 16) rfl (xob ((ly_nm L hs (show n < 12 by omega)).1) (by decide)) rfl (by decide) (by decide) (fun h => absurd h (by decide)) (by omega) ?_
  refine xk_load rfl (p := 17) rfl rfl ?_
  refine xk_load rfl (p := 18) rfl rfl ?_
  refine xk_callp rfl (p := 21) rfl (by decide) rfl (Nat.le_of_ble_eq_true rfl) (Nat.le_of_ble_eq_true rfl) (xrv ((ly_tx L).1) (by decide)) (as := [(2, ((3 : Nat) : Int))]) (r := [(2, (((18 + 89 * s + 5 * n) : Nat) : Int))]) rfl (v := (0, ((1 + sSl m (nT m) : Nat) : Int))) (c_parts L ((hT.up (by omega)).up (by omega)) hX) ?_
  refine xk_putf rfl (p := 24) rfl (xob ((ly_nm L hs (show n < 12 by omega)).1) (by decide)) rfl (by decide) (by decide) (fun h => absurd h (by decide)) (by omega) ?_
  refine xk_load rfl (p := 25) rfl rfl ?_
  refine xk_push rfl (p := 26) rfl ?_
  refine xk_putf rfl (p := 29) rfl (xob ((ly_nm L hs (show n < 12 by omega)).1) (by decide)) rfl (by decide) (by decide) (fun h => absurd h (by decide)) (by omega) ?_
  refine xk_load rfl (p := 30) rfl rfl ?_
  refine xk_push rfl (p := 31) rfl ?_
  refine xk_putf rfl (p := 34) rfl (xob ((ly_nm L hs (show n < 12 by omega)).1) (by decide)) rfl (by decide) (by decide) (fun h => absurd h (by decide)) (by omega) ?_
  refine xk_load rfl (p := 35) rfl rfl ?_
  refine xk_push rfl (p := 36) rfl ?_
  refine xk_putf rfl (p := 39) rfl (xob ((ly_nm L hs (show n < 12 by omega)).1) (by decide)) rfl (by decide) (by decide) (fun h => absurd h (by decide)) (by omega) ?_
  refine xk_load rfl (p := 40) rfl rfl ?_
  refine xk_push rfl (p := 41) rfl ?_
  refine xk_putf rfl (p := 44) rfl (xob ((ly_nm L hs (show n < 12 by omega)).1) (by decide)) rfl (by decide) (by decide) (fun h => absurd h (by decide)) (by omega) ?_
  refine xk_load rfl (p := 45) rfl rfl ?_
  refine xk_getf rfl (p := 48) rfl (xob ((ly_nm L hs (show n < 12 by omega)).1) (by decide)) (v := (2, ((((18 + 89 * s + 5 * n) + 1) : Nat) : Int))) (xsl2 rfl ((ly_nm L hs (show n < 12 by omega)).2.2)) ?_
  refine xk_push rfl (p := 49) rfl ?_
  refine xk_putf rfl (p := 52) rfl (xob ((ly_nm L hs (show n < 12 by omega)).2.1.1) (by decide)) rfl (by decide) (by decide) (fun h => absurd h (by decide)) (by omega) ?_
  refine xk_ret rfl (rfl) ?_
  refine ⟨rfl, rfl, ⟨?_, ?_, ?_, ?_, ?_, ?_, ?_, ?_⟩, fun b j hh => ?_⟩
  · (repeat (first | exact xupd_eq | refine (xupd_ne (by omega)).trans ?_))
  · (repeat (first | exact xupd_eq | refine (xupd_ne (by omega)).trans ?_))
  · (repeat (first | exact xupd_eq | refine (xupd_ne (by omega)).trans ?_))
  · (repeat (first | exact xupd_eq | refine (xupd_ne (by omega)).trans ?_))
  · (repeat (first | exact xupd_eq | refine (xupd_ne (by omega)).trans ?_))
  · (repeat (first | exact xupd_eq | refine (xupd_ne (by omega)).trans ?_))
  · (repeat (first | exact xupd_eq | refine (xupd_ne (by omega)).trans ?_))
  · (repeat (first | exact xupd_eq | refine (xupd_ne (by omega)).trans ?_))
  · (repeat (refine (xupd_ne (by omega)).trans ?_))
    rfl

theorem nm_NK {t v u m : xD} {s : Nat} (h : Rep t s m) (hX : MX m) (hs : s < 3) (hN : nN m < 12) (n1 : v (18 + 89 * s + 5 * nN m) 1 = tP m 8) (n2 : v (18 + 89 * s + 5 * nN m) 2 = ((nT m : Nat) : Int)) (n3 : v (18 + 89 * s + 5 * nN m) 3 = ((1 + sSl m (nT m) : Nat) : Int)) (f : ∀ b j, ¬ (18 + 89 * s + 5 * nN m ≤ b ∧ b < 20 + 89 * s + 5 * nN m) → v b j = t b j) (e : ∀ b j, ¬ b = 5 + 89 * s → u b j = v b j) : NK u s (tNm m) := fun n hn => by
  rw [tNm_N] at hn
  by_cases c : n = nN m
  · subst c
    rw [tNm_kN hX, tNm_l, tNm_p]
    exact ⟨(e _ _ (by omega)).trans n1, (e _ _ (by omega)).trans n2, (e _ _ (by omega)).trans n3⟩
  · rw [tNm_kK (by omega), tNm_q c (by decide), tNm_q c (by decide)]
    exact ⟨(e _ _ (by omega)).trans ((f _ _ (by omega)).trans (rKey h (by omega))), (e _ _ (by omega)).trans ((f _ _ (by omega)).trans (rLen h (by omega))), (e _ _ (by omega)).trans ((f _ _ (by omega)).trans (rPar h (by omega)))⟩
theorem nm_Rep {t v u m : xD} {s : Nat} (h : Rep t s m) (hI : Inv m) (hX : MX m) (hs : s < 3) (hN : nN m < 12) (n : v (18 + 89 * s + 5 * nN m) 1 = tP m 8 ∧ v (18 + 89 * s + 5 * nN m) 2 = ((nT m : Nat) : Int) ∧ v (18 + 89 * s + 5 * nN m) 3 = ((1 + sSl m (nT m) : Nat) : Int) ∧ v (18 + 89 * s + 5 * nN m) 4 = 0 ∧ v (18 + 89 * s + 5 * nN m) 5 = 0 ∧ v (18 + 89 * s + 5 * nN m) 6 = 0 ∧ v (18 + 89 * s + 5 * nN m) 7 = 0 ∧ v (18 + 89 * s + 5 * nN m + 1) 3 = 0) (f : ∀ b j, ¬ (18 + 89 * s + 5 * nN m ≤ b ∧ b < 20 + 89 * s + 5 * nN m) → v b j = t b j) (k : Kx s (xupd v (5 + 89 * s) 6 ((nN m + 1 : Nat) : Int)) u) (k0 : ∀ i, i < nN m → u (18 + 89 * s + 5 * i) 4 = ((if i < nN m ∧ bCla (tNm m) i (nN m) = true then sKin m i ||| 2 ^ nN m else sKin m i : Nat) : Int)) (k1 : u (18 + 89 * s + 5 * nN m) 4 = ((xbs (fun j => bCla (tNm m) (nN m) j) (nN m) : Nat) : Int)) : Rep u s (tNm m) := by
  obtain ⟨n1, n2, n3, n4, n5, n6, n7, n8⟩ := n
  refine Rep.newN h hI hX hN (fun b j c1 c2 c3 => (k b j c2).trans ((xupd_ne c1).trans (f b j c3))) ((k _ _ (by omega)).trans xupd_eq) ((k _ _ (by omega)).trans ((xupd_ne (by omega)).trans n1)) ((k _ _ (by omega)).trans ((xupd_ne (by omega)).trans n2)) ((k _ _ (by omega)).trans ((xupd_ne (by omega)).trans n3)) ((k _ _ (by omega)).trans ((xupd_ne (by omega)).trans n5)) ((k _ _ (by omega)).trans ((xupd_ne (by omega)).trans n6)) ((k _ _ (by omega)).trans ((xupd_ne (by omega)).trans n7)) ((k _ _ (by omega)).trans ((xupd_ne (by omega)).trans n8)) (fun i hi => (k0 i hi).trans (congrArg (fun z : Nat => ((z : Nat) : Int)) ?_)) (k1.trans (congrArg (fun z : Nat => ((z : Nat) : Int)) sKin_new.symm))
  rw [sKin_old hI hN hi]
  by_cases c : bCla (tNm m) i (nN m) = true
  · rw [if_pos c, if_pos ⟨hi, c⟩]
  · rw [if_neg c, if_neg (fun hh => c hh.2)]
theorem y_name_new {m : xD} (hF : sFau m = -1) (hS : sSam m (nN m) = -1) (hN : ¬ nN m = 12) : y_name m = (some (0, ((nN m : Nat) : Int)), tNm m) := by
  unfold y_name
  rw [if_pos hF, if_pos hS, if_neg hN]
  rfl
theorem vw_17 {m : xD} {x : Int} : vw m = vw (xupd m 292 17 x) := by
  funext a k
  unfold vw
  by_cases c : a = 292 ∧ k = 17
  · obtain ⟨rfl, rfl⟩ := c
    rfl
  · rw [xupd_ne c]
theorem sSam_key {m : xD} (hI : Inv m) (hX : MX m) (hF : sFau m = -1) {k : Nat} (hk : k < nN m) (e : kK m k = tP m 8) : sSam m (nN m) = ((k : Nat) : Int) :=
  sSam_at (nN m) hk ((key_txt hI hX hF hk).mp e) (fun q hq hb => iK hI hq hk (((key_txt hI hX hF hq).mpr hb).trans e.symm))
theorem sSam_key0 {m : xD} (hI : Inv m) (hX : MX m) (hF : sFau m = -1) (h : ∀ k, k < nN m → ¬ kK m k = tP m 8) : sSam m (nN m) = -1 := by
  have r := sSam_rng (m := m) (nN m)
  have key : ∀ K, K ≤ nN m → sSam m K = -1 := fun K => by
    induction K with
    | zero => intro _; rfl
    | succ K ih =>
      intro hK
      show (if bTxt m K = true then ((K : Nat) : Int) else sSam m K) = -1
      rw [if_neg (fun hb => h K (by omega) ((key_txt hI hX hF (by omega)).mpr hb)), ih (by omega)]
  exact key _ (Nat.le_refl _)
theorem c_nameFor {d : Nat} {g : xG} {t m : xD} {s : Nat} (L : xLay g) (hs : s < 3) (hI : Inv m) (hR : Rep t s m) (hT : TX t m) (hX : MX m) (hF : sFau m = -1) : xCall (d + 2) 33 [(2, (((5 + 89 * s) : Nat) : Int)), (2, ((3 : Nat) : Int))] g t (zQ s g t (y_name m)) := by
  show xOk (d + 2) 33 0 [(2, (((5 + 89 * s) : Nat) : Int)), (2, ((3 : Nat) : Int)), (3, 0), (3, 0), (3, 0)] [] g t _
  have iNn_ := iNn hI
  have iTn_ := iTn hX
  refine xk_load rfl (p := 1) rfl rfl ?_
  refine xk_callp rfl (p := 4) rfl (by decide) rfl (Nat.le_of_ble_eq_true rfl) (Nat.le_of_ble_eq_true rfl) (xrv ((ly_tx L).1) (by decide)) (as := [(2, ((3 : Nat) : Int))]) (r := []) rfl (v := (1, tP m 8)) (c_key L hT hX) ?_
  refine xk_storel rfl (p := 5) rfl (Nat.le_of_ble_eq_true rfl) (ls' := [(2, (((5 + 89 * s) : Nat) : Int)), (2, ((3 : Nat) : Int)), (1, tP m 8), (3, 0), (3, 0)]) rfl ?_
  refine xk_push rfl (p := 6) rfl ?_
  refine xk_store rfl (p := 8) rfl (by decide) (Nat.le_of_ble_eq_true rfl) (ls' := [(2, (((5 + 89 * s) : Nat) : Int)), (2, ((3 : Nat) : Int)), (1, tP m 8), (3, 0), (0, 0)]) rfl ?_
  have lp1 : ∀ k : Nat, k ≤ nN m → (∀ i, i < k → ¬ kK m i = tP m 8) → xOk (d + 2) 33 8 [(2, (((5 + 89 * s) : Nat) : Int)), (2, ((3 : Nat) : Int)), (1, tP m 8), (3, 0), (0, ((k : Nat) : Int))] [] g t (zQ s g t (y_name m)) := by
    refine xk_up (nN m) (fun k hkk ih1  hi1 => ?_)
    refine xk_load rfl (p := 10) rfl rfl ?_
    refine xk_load rfl (p := 11) rfl rfl ?_
    refine xk_getf rfl (p := 14) rfl (xob (ly_st L hs) (by decide)) (v := (0, ((nN m : Nat) : Int))) (xsl0 rfl (rNn hR hI)) ?_
    have iNn_ := iNn hI
    refine xk_icmp rfl (p := 17) rfl (fun c14_2 => ?_) (fun c14_2 => ?_)
    · replace c14_2 : ((nN m : Nat) : Int) ≤ ((k : Nat) : Int) := c14_2
      refine xk_load rfl (p := 42) rfl rfl ?_
      refine xk_getf rfl (p := 45) rfl (xob (ly_st L hs) (by decide)) (v := (0, ((nN m : Nat) : Int))) (xsl0 rfl (rNn hR hI)) ?_
      have iNn_ := iNn hI
      refine xk_push rfl (p := 47) rfl ?_
      refine xk_icmp rfl (p := 50) rfl (fun c47_3 => ?_) (fun c47_3 => ?_)
      · replace c47_3 : ((nN m : Nat) : Int) < 12 := c47_3
        have hS : sSam m (nN m) = -1 := sSam_key0 hI hX hF (fun k_ hk_ => hi1 k_ (by omega))
        refine xk_load rfl (p := 54) rfl rfl ?_
        refine xk_getf rfl (p := 57) rfl (xob (ly_st L hs) (by decide)) (v := (2, (((6 + 89 * s) : Nat) : Int))) (xsl2 rfl (ly_s0 L hs)) ?_
        refine xk_load rfl (p := 58) rfl rfl ?_
        refine xk_getf rfl (p := 61) rfl (xob (ly_st L hs) (by decide)) (v := (0, ((nN m : Nat) : Int))) (xsl0 rfl (rNn hR hI)) ?_
        have iNn_ := iNn hI
        refine xk_ald rfl (p := 62) rfl (v := (2, (((18 + 89 * s + 5 * (nN m)) : Nat) : Int))) (xal2 (ly_sn L hs) (by decide) (show nN m < 12 by omega) (ly_ne L hs (show nN m < 12 by omega))) ?_
        refine xk_load rfl (p := 63) rfl rfl ?_
        refine xk_call rfl (p := 66) rfl (by decide) rfl (Nat.le_of_ble_eq_true rfl) (Nat.le_of_ble_eq_true rfl) (xrv ((ly_nm L hs (show nN m < 12 by omega)).1) (by decide)) (as := [(2, (((18 + 89 * s + 5 * (nN m)) : Nat) : Int)), (2, ((3 : Nat) : Int))]) (r := []) rfl (c_begin L hs hT hX (by omega)) ?_
        rintro _ g v1 ⟨rfl, rfl, hb1, hb2⟩
        refine xk_load rfl (p := 67) rfl rfl ?_
        refine xk_dup rfl (p := 68) rfl (show ¬ (2 : Nat) = 1 by decide) ?_
        refine xk_getf rfl (p := 71) rfl (xob (ly_st L hs) (by decide)) (v := (0, ((nN m : Nat) : Int))) (xsl0 rfl ((hb2 _ _ (by omega)).trans (rNn hR hI))) ?_
        have iNn_ := iNn hI
        refine xk_push rfl (p := 72) rfl ?_
        refine xk_bin rfl (p := 73) rfl (z := ((nN m + 1 : Nat) : Int)) (congrArg some (xadd_n (n := nN m) (m := 1) (by omega))) ?_
        refine xk_putf rfl (p := 76) rfl (xob (ly_st L hs) (by decide)) rfl (by decide) (by decide) (fun h => absurd h (by decide)) (by omega) ?_
        refine xk_load rfl (p := 77) rfl rfl ?_
        refine xk_load rfl (p := 78) rfl rfl ?_
        refine xk_getf rfl (p := 81) rfl (xob (ly_st L hs) (by decide)) (v := (0, ((nN m + 1 : Nat) : Int))) (xsl0 rfl xupd_eq) ?_
        refine xk_push rfl (p := 82) rfl ?_
        refine xk_bin rfl (p := 83) rfl (z := ((nN m : Nat) : Int)) (congrArg some ((xsub_r (by omega) (by omega)).trans (by omega))) ?_
        have hI2 := hI.nm hX hF hS (by omega)
        refine xk_call rfl (p := 86) rfl (by decide) rfl (Nat.le_of_ble_eq_true rfl) (Nat.le_of_ble_eq_true rfl) (xrv (ly_st L hs) (by decide)) (as := [(2, (((5 + 89 * s) : Nat) : Int)), (0, ((nN m : Nat) : Int))]) (r := []) rfl (c_joinKin (K0 := sKin m) L hs hI2 (nm_NK (u := (xupd v1 (5 + 89 * s) 6 ((nN m + 1 : Nat) : Int))) hR hX hs (by omega) hb1.1 hb1.2.1 hb1.2.2.1 hb2 (fun b j hh => xupd_ne (by omega))) tNm_N (fun i hi => sKin_lt hI) (fun i hi => (xupd_ne (by omega)).trans ((hb2 _ _ (by omega)).trans (rKin hR hi))) ((xupd_ne (by omega)).trans hb1.2.2.2.1)) ?_
        rintro _ g v2 ⟨rfl, rfl, hk1, hk2, hk3⟩
        refine xk_load rfl (p := 87) rfl rfl ?_
        refine xk_getf rfl (p := 90) rfl (xob (ly_st L hs) (by decide)) (v := (0, ((nN m + 1 : Nat) : Int))) (xsl0 rfl ((hk1 _ _ (by omega)).trans (xupd_eq))) ?_
        refine xk_push rfl (p := 91) rfl ?_
        refine xk_bin rfl (p := 92) rfl (z := ((nN m : Nat) : Int)) (congrArg some ((xsub_r (by omega) (by omega)).trans (by omega))) ?_
        refine xk_ret rfl (rfl) ?_
        exact zRet (y_name_new hF hS (by omega)) (nm_Rep hR hI hX hs (by omega) hb1 hb2 hk1 hk2 hk3) (fun b j hh => (hk1 b j (by omega)).trans ((xupd_ne (by omega)).trans (hb2 b j (by omega))))
      · replace c47_3 : ¬ (((nN m : Nat) : Int) < 12) := c47_3
        refine xk_push rfl (p := 52) rfl ?_
        refine xk_ret rfl (rfl) ?_
        exact zRet (show y_name m = (some (0, (-4)), xupd m 292 17 0) from by have e := sSam_key0 hI hX hF (fun k_ hk_ => hi1 k_ (by omega)); unfold y_name; rw [if_pos hF, if_pos e, if_pos (by omega)]) (hR.vi vw_17) Fr.rf
    · replace c14_2 : ¬ (((nN m : Nat) : Int) ≤ ((k : Nat) : Int)) := c14_2
      refine xk_load rfl (p := 18) rfl rfl ?_
      refine xk_getf rfl (p := 21) rfl (xob (ly_st L hs) (by decide)) (v := (2, (((6 + 89 * s) : Nat) : Int))) (xsl2 rfl (ly_s0 L hs)) ?_
      refine xk_load rfl (p := 23) rfl rfl ?_
      refine xk_ald rfl (p := 24) rfl (v := (2, (((18 + 89 * s + 5 * k) : Nat) : Int))) (xal2 (ly_sn L hs) (by decide) (show k < 12 by omega) (ly_ne L hs (show k < 12 by omega))) ?_
      refine xk_getf rfl (p := 27) rfl (xob ((ly_nm L hs (show k < 12 by omega)).1) (by decide)) (v := (1, kK m k)) (xsl1 rfl (rKey hR (show k < nN m by omega))) ?_
      refine xk_load rfl (p := 28) rfl rfl ?_
      refine xk_lbin rfl (p := 29) rfl rfl (w := (0, xlcmp (kK m k) (tP m 8))) (rfl) ?_
      have xl28_ := @xlcmp_c (kK m k) (tP m 8)
      refine xk_if rfl (p := 32) rfl (fun c29_4 => ?_) (fun c29_4 => ?_)
      · replace c29_4 : ¬ (xlcmp (kK m k) (tP m 8) = 0) := c29_4
        refine xk_inc1 rfl (p := 38) rfl (n := k) rfl (by omega) (ls' := [(2, (((5 + 89 * s) : Nat) : Int)), (2, ((3 : Nat) : Int)), (1, tP m 8), (3, 0), (0, ((k + 1 : Nat) : Int))]) rfl ?_
        refine xk_goto rfl ?_
        exact ih1 (by omega)  (by exact xall_up hi1 (by omega))
      · replace c29_4 : xlcmp (kK m k) (tP m 8) = 0 := Decidable.not_not.mp c29_4
        refine xk_load rfl (p := 34) rfl rfl ?_
        refine xk_ret rfl (rfl) ?_
        exact zRet (show y_name m = (some (0, ((k : Nat) : Int)), xupd m 292 17 0) from by have e := sSam_key hI hX hF (show k < nN m by omega) (by omega); unfold y_name; rw [if_pos hF, e, if_neg (by omega)]) (hR.vi vw_17) Fr.rf
  exact lp1 0 (by omega)  (by intro i h; omega)

def nQ (g : xG) (t : xD) (S : Option xV × xD) : Option xV → xG → xD → Prop := fun r g1 t1 => g1 = g ∧ r = S.1 ∧ Rep t1 0 S.2 ∧ TX t1 S.2 ∧ ∀ b j, ¬ (b = 3 ∨ (5 ≤ b ∧ b < 94)) → t1 b j = t b j
theorem y_name_17 {m : xD} : (y_name m).2 292 17 = 0 := by
  unfold y_name
  (repeat' split)
  · exact (show xupd m 292 17 0 292 17 = 0 from xupd_eq)
  · show tNm m 292 17 = 0
    rw [tNm_at]
    (repeat' split) <;> first | rfl | (exfalso; omega)
  · exact (show xupd m 292 17 0 292 17 = 0 from xupd_eq)
  · exact (show xupd m 292 17 0 292 17 = 0 from xupd_eq)
theorem TX.nl {t w : xD} (h : w 292 17 = 0) : TX (xupd t 3 1 0) w := ⟨by rw [h, xupd_eq], fun i hi => absurd hi (by omega)⟩
theorem Rep.off3 {t u m : xD} {s : Nat} (h : Rep t s m) (hI : Inv m) (e : ∀ b j, ¬ b = 3 → u b j = t b j) : Rep u s m := h.st hI (fun a k h1 h2 => e a k (by omega))
theorem Inv.y_name {m : xD} (hI : Inv m) (hX : MX m) : Inv (y_name m).2 := by
  have i := iNn hI
  unfold _root_.Jvm.Pilot.CNameRevisionsLaw_law_r9551_db10b6.y_name
  (repeat' split)
  · exact hI.vi vw_17
  · exact hI.nm hX (by assumption) (by assumption) (by omega)
  · exact hI.vi vw_17
  · exact hI.vi vw_17
theorem nRet {g : xG} {t u m : xD} {S : Option xV × xD} {r : Option xV} (e : S = (r, m)) (h1 : Rep u 0 m) (h2 : TX u m) (h3 : ∀ b j, ¬ (b = 3 ∨ (5 ≤ b ∧ b < 94)) → u b j = t b j) : nQ g t S r g u := by
  rw [e]
  exact ⟨rfl, rfl, h1, h2, h3⟩
theorem y_name_int {m : xD} : ∃ x, (y_name m).1 = some (0, x) := by
  unfold y_name
  (repeat' split) <;> exact ⟨_, rfl⟩
theorem c_name {d : Nat} {g : xG} {t m : xD} (L : xLay g) (hI : Inv m) (hR : Rep t 0 m) (hT : TX t m) (hX : MX m) : xCall (d + 3) 70 [(2, ((2 : Nat) : Int))] g t (nQ g t (y_name m)) := by
  show xOk (d + 3) 70 0 [(2, ((2 : Nat) : Int)), (3, 0), (3, 0)] [] g t _
  have iNn_ := iNn hI
  have hs : 0 < 3 := by decide
  have hs1 : 1 < 3 := by decide
  have hs2 : 2 < 3 := by decide
  have iTn_ := iTn hX
  obtain ⟨rr_, hrr⟩ := y_name_int (m := m)
  refine xk_load rfl (p := 1) rfl rfl ?_
  refine xk_getf rfl (p := 4) rfl (xob (ly_x L) (by decide)) (v := (2, ((3 : Nat) : Int))) (xsl2 rfl (ly_x0 L)) ?_
  refine xk_callp rfl (p := 7) rfl (by decide) rfl (Nat.le_of_ble_eq_true rfl) (Nat.le_of_ble_eq_true rfl) (xrv ((ly_tx L).1) (by decide)) (as := [(2, ((3 : Nat) : Int))]) (r := []) rfl (v := (0, sFau m)) (c_fault L hT hX) ?_
  have sf_ := sFau_rng (m := m)
  refine xk_store rfl (p := 8) rfl (by decide) (Nat.le_of_ble_eq_true rfl) (ls' := [(2, ((2 : Nat) : Int)), (0, sFau m), (3, 0)]) rfl ?_
  refine xk_load rfl (p := 9) rfl rfl ?_
  refine xk_if rfl (p := 12) rfl (fun c9_1 => ?_) (fun c9_1 => ?_)
  · replace c9_1 : sFau m < 0 := c9_1
    refine xk_load rfl (p := 20) rfl rfl ?_
    refine xk_getf rfl (p := 23) rfl (xob (ly_x L) (by decide)) (v := (2, (((5 + 89 * 0) : Nat) : Int))) (xsl2 rfl (ly_x1 L)) ?_
    refine xk_load rfl (p := 24) rfl rfl ?_
    refine xk_getf rfl (p := 27) rfl (xob (ly_x L) (by decide)) (v := (2, ((3 : Nat) : Int))) (xsl2 rfl (ly_x0 L)) ?_
    have hF : sFau m = -1 := by omega
    refine xk_call rfl (p := 30) rfl (by decide) rfl (Nat.le_of_ble_eq_true rfl) (Nat.le_of_ble_eq_true rfl) (xrv (ly_st L hs) (by decide)) (as := [(2, (((5 + 89 * 0) : Nat) : Int)), (2, ((3 : Nat) : Int))]) (r := []) rfl (c_nameFor L hs hI hR hT hX hF) ?_
    rintro r_ g v4 ⟨rfl, hr_, hV4, hF4⟩
    obtain rfl : r_ = some (0, rr_) := hr_.trans hrr
    refine xk_store rfl (p := 31) rfl (by decide) (Nat.le_of_ble_eq_true rfl) (ls' := [(2, ((2 : Nat) : Int)), (0, sFau m), (0, rr_)]) rfl ?_
    refine xk_load rfl (p := 32) rfl rfl ?_
    refine xk_getf rfl (p := 35) rfl (xob (ly_x L) (by decide)) (v := (2, ((3 : Nat) : Int))) (xsl2 rfl (ly_x0 L)) ?_
    refine xk_push rfl (p := 36) rfl ?_
    refine xk_putf rfl (p := 39) rfl (xob ((ly_tx L).1) (by decide)) rfl (by decide) (by decide) (fun h => absurd h (by decide)) (by omega) ?_
    refine xk_load rfl (p := 40) rfl rfl ?_
    refine xk_ret rfl (rfl) ?_
    exact ⟨rfl, hrr.symm, Rep.off3 hV4 (hI.y_name hX) (fun b j hh => xupd_ne (by omega)), TX.nl y_name_17, fun b j hh => (xupd_ne (by omega)).trans (hF4 b j (by omega))⟩
  · replace c9_1 : ¬ (sFau m < 0) := c9_1
    refine xk_push rfl (p := 14) rfl ?_
    refine xk_load rfl (p := 15) rfl rfl ?_
    refine xk_bin rfl (p := 16) rfl (z := ((-10) - sFau m)) (congrArg some (xsub_r (by omega) (by omega))) ?_
    refine xk_goto rfl ?_
    refine xk_store rfl (p := 31) rfl (by decide) (Nat.le_of_ble_eq_true rfl) (ls' := [(2, ((2 : Nat) : Int)), (0, sFau m), (0, ((-10) - sFau m))]) rfl ?_
    refine xk_load rfl (p := 32) rfl rfl ?_
    refine xk_getf rfl (p := 35) rfl (xob (ly_x L) (by decide)) (v := (2, ((3 : Nat) : Int))) (xsl2 rfl (ly_x0 L)) ?_
    refine xk_push rfl (p := 36) rfl ?_
    refine xk_putf rfl (p := 39) rfl (xob ((ly_tx L).1) (by decide)) rfl (by decide) (by decide) (fun h => absurd h (by decide)) (by omega) ?_
    refine xk_load rfl (p := 40) rfl rfl ?_
    refine xk_ret rfl (rfl) ?_
    exact nRet (show y_name m = (some (0, ((-10) - sFau m)), xupd m 292 17 0) from by unfold y_name; rw [if_neg (by omega)]) (Rep.off3 (hR.vi vw_17) (hI.vi vw_17) (fun b j hh => xupd_ne (by omega))) (TX.nl xupd_eq) (fun b j hh => xupd_ne (by omega))
