/-! THE CLASS: AT -/
theorem xlast_s {p : Nat → Bool} {f : Nat → Int} {x : Int} {K : Nat} : xlast p f x (K + 1) = if p K = true then f K else xlast p f x K := rfl
theorem xlast_hi {p : Nat → Bool} {f : Nat → Int} {x : Int} {k : Nat} : ∀ j, (∀ i, k < i → i ≤ k + j → ¬ p i = true) → xlast p f x (k + 1 + j) = xlast p f x (k + 1)
  | 0, _ => rfl
  | j + 1, h => by
    rw [show k + 1 + (j + 1) = (k + 1 + j) + 1 by omega, xlast_s, if_neg (h _ (by omega) (by omega)), xlast_hi j (fun i h1 h2 => h i h1 (by omega))]
theorem xlast_no {p : Nat → Bool} {f : Nat → Int} {x : Int} : ∀ K, (∀ i, i < K → ¬ p i = true) → xlast p f x K = x
  | 0, _ => rfl
  | K + 1, h => by
    rw [xlast_s, if_neg (h K (by omega)), xlast_no K (fun i hi => h i (by omega))]
theorem sAt_1 {m : xD} {n k : Nat} {y : Int} (hk : k < nJ m n) (hp : m 299 (18 * n + 3 * k) ≤ y) (h : ∀ i, k < i → i < nJ m n → ¬ m 299 (18 * n + 3 * i) ≤ y) : sAt m n y = m 299 (18 * n + 3 * k + 2) := by
  unfold sAt
  obtain ⟨j, e⟩ : ∃ j, nJ m n = k + 1 + j := ⟨nJ m n - (k + 1), by omega⟩
  rw [e] at h ⊢
  rw [xlast_hi j (fun i h1 h2 hh => h i h1 (by omega) (of_decide_eq_true hh)), xlast_s, if_pos (decide_eq_true hp)]
theorem sAt_0 {m : xD} {n : Nat} {y : Int} (h : ∀ i, i < nJ m n → ¬ m 299 (18 * n + 3 * i) ≤ y) : sAt m n y = m 299 (18 * n + 1) := by
  unfold sAt
  rw [xlast_no _ (fun i hi hh => h i hi (of_decide_eq_true hh))]
theorem c_wasAt {d : Nat} {g : xG} {t m : xD} {s : Nat} {n : Nat} {y z : Int} (L : xLay g) (hs : s < 3) (hI : Inv m) (hR : Rep t s m) (hn : n < nN m) : xCall (d) 12 [(2, (((18 + 89 * s + 5 * n + 1) : Nat) : Int)), (0, y), (0, z)] g t (xQ g t (some (0, if nJ m n = 0 then z else sAt m n y))) := by
  show xOk (d) 12 0 [(2, (((18 + 89 * s + 5 * n + 1) : Nat) : Int)), (0, y), (0, z), (3, 0)] [] g t _
  have iNn_ := iNn hI
  have iJn0_ := iJn hI hn
  refine xk_load rfl (p := 1) rfl rfl ?_
  refine xk_getf rfl (p := 4) rfl (xob ((ly_nm L hs (show n < 12 by omega)).2.1.1) (by decide)) (v := (0, ((nJ m n : Nat) : Int))) (xsl0 rfl ((rJn hR (show n < nN m by omega)).trans (iJn hI (show n < nN m by omega)).1)) ?_
  have iJn_ := iJn hI (show n < nN m by omega)
  refine xk_push rfl (p := 5) rfl ?_
  refine xk_bin rfl (p := 6) rfl (z := (((nJ m n : Nat) : Int) - 1)) (congrArg some (xsub_r (by omega) (by omega))) ?_
  refine xk_store rfl (p := 7) rfl (by decide) (Nat.le_of_ble_eq_true rfl) (ls' := [(2, (((18 + 89 * s + 5 * n + 1) : Nat) : Int)), (0, y), (0, z), (0, (((nJ m n : Nat) : Int) - 1))]) rfl ?_
  have lp1 : ∀ e : Nat, e ≤ nJ m n → ∀ (v : Int), (v = ((nJ m n : Nat) : Int) - 1 - e) → (∀ i, nJ m n - e ≤ i → i < nJ m n → ¬ m 299 (18 * n + 3 * i) ≤ y) → xOk (d) 12 7 [(2, (((18 + 89 * s + 5 * n + 1) : Nat) : Int)), (0, y), (0, z), (0, v)] [] g t (xQ g t (some (0, if nJ m n = 0 then z else sAt m n y))) := by
    refine xk_up (nJ m n) (fun e hke ih1 v hi1 hi2 => ?_)
    refine xk_load rfl (p := 8) rfl rfl ?_
    refine xk_if rfl (p := 11) rfl (fun c8_2 => ?_) (fun c8_2 => ?_)
    · replace c8_2 : v < 0 := c8_2
      refine xk_load rfl (p := 35) rfl rfl ?_
      refine xk_getf rfl (p := 38) rfl (xob ((ly_nm L hs (show n < 12 by omega)).2.1.1) (by decide)) (v := (0, ((nJ m n : Nat) : Int))) (xsl0 rfl ((rJn hR (show n < nN m by omega)).trans (iJn hI (show n < nN m by omega)).1)) ?_
      have iJn_ := iJn hI (show n < nN m by omega)
      refine xk_if rfl (p := 41) rfl (fun c38_3 => ?_) (fun c38_3 => ?_)
      · replace c38_3 : ((nJ m n : Nat) : Int) ≤ 0 := c38_3
        refine xk_load rfl (p := 51) rfl rfl ?_
        refine xk_rete rfl (rfl) ?_
        exact (if_pos (by omega)).symm
      · replace c38_3 : ¬ (((nJ m n : Nat) : Int) ≤ 0) := c38_3
        refine xk_load rfl (p := 42) rfl rfl ?_
        refine xk_getf rfl (p := 45) rfl (xob ((ly_nm L hs (show n < 12 by omega)).2.1.1) (by decide)) (v := (2, ((((18 + 89 * s + 5 * n + 1) + 2) : Nat) : Int))) (xsl2 rfl ((ly_nm L hs (show n < 12 by omega)).2.1.2.2.2.2.2.1)) ?_
        refine xk_push rfl (p := 46) rfl ?_
        refine xk_ald rfl (p := 47) rfl (v := (0, m 299 (18 * n + 3 * 0 + 1))) ((xal0 ((ly_nm L hs (show n < 12 by omega)).2.1.2.2.1) (show 0 < 6 by omega)).trans (congrArg (fun z => some (0, z)) (rJ2 hR (show n < nN m by omega) (show ((0 : Nat) : Int) < m 298 n by omega)))) ?_
        refine xk_goto rfl ?_
        refine xk_rete rfl (rfl) ?_
        exact ((if_neg (by omega)).trans ((sAt_0 (fun i hi => hi2 i (by omega) hi)).trans (congrArg (m 299) (by omega)))).symm
    · replace c8_2 : ¬ (v < 0) := c8_2
      refine xk_load rfl (p := 12) rfl rfl ?_
      refine xk_getf rfl (p := 15) rfl (xob ((ly_nm L hs (show n < 12 by omega)).2.1.1) (by decide)) (v := (2, ((((18 + 89 * s + 5 * n + 1) + 1) : Nat) : Int))) (xsl2 rfl ((ly_nm L hs (show n < 12 by omega)).2.1.2.2.2.2.1)) ?_
      refine xk_load rfl (p := 16) rfl rfl ?_
      refine xk_aldi rfl (p := 17) rfl (show 0 ≤ v by omega) (v := (0, m 299 (18 * n + 3 * (v.toNat)))) ((xal0 ((ly_nm L hs (show n < 12 by omega)).2.1.2.1) (show v.toNat < 6 by omega)).trans (congrArg (fun z => some (0, z)) (rJ1 hR (show n < nN m by omega) (show ((v.toNat : Nat) : Int) < m 298 n by omega)))) ?_
      refine xk_load rfl (p := 18) rfl rfl ?_
      refine xk_icmp rfl (p := 21) rfl (fun c18_4 => ?_) (fun c18_4 => ?_)
      · replace c18_4 : y < m 299 (18 * n + 3 * (v.toNat)) := c18_4
        have e5 : xadd (v) (-1) = v - 1 := (xadd_r (by omega) (by omega)).trans (by omega)
        refine xk_iinc rfl (p := 31) rfl (x := v) rfl (ls' := [(2, (((18 + 89 * s + 5 * n + 1) : Nat) : Int)), (0, y), (0, z), (0, (v - 1))]) (by rw [e5]; rfl) ?_
        clear e5
        refine xk_goto rfl ?_
        exact ih1 (by omega) (v - 1) (by omega) (by exact fun i h1 h2 => dite (i = v.toNat) (fun ci => by subst ci; omega) (fun ci => hi2 i (by omega) h2))
      · replace c18_4 : ¬ (y < m 299 (18 * n + 3 * (v.toNat))) := c18_4
        refine xk_load rfl (p := 22) rfl rfl ?_
        refine xk_getf rfl (p := 25) rfl (xob ((ly_nm L hs (show n < 12 by omega)).2.1.1) (by decide)) (v := (2, ((((18 + 89 * s + 5 * n + 1) + 3) : Nat) : Int))) (xsl2 rfl ((ly_nm L hs (show n < 12 by omega)).2.1.2.2.2.2.2.2)) ?_
        refine xk_load rfl (p := 26) rfl rfl ?_
        refine xk_aldi rfl (p := 27) rfl (show 0 ≤ v by omega) (v := (0, m 299 (18 * n + 3 * (v.toNat) + 2))) ((xal0 ((ly_nm L hs (show n < 12 by omega)).2.1.2.2.2.1) (show v.toNat < 6 by omega)).trans (congrArg (fun z => some (0, z)) (rJ3 hR (show n < nN m by omega) (show ((v.toNat : Nat) : Int) < m 298 n by omega)))) ?_
        refine xk_rete rfl (rfl) ?_
        exact ((if_neg (by omega)).trans (sAt_1 (k := v.toNat) (by omega) (by omega) (fun i h1 h2 => hi2 i (by omega) h2))).symm
  exact lp1 0 (by omega) (((nJ m n : Nat) : Int) - 1) (by omega) (by intro i h1 h2; omega)

theorem c_at {d : Nat} {g : xG} {t m : xD} {x y : Int} (L : xLay g) (hI : Inv m) (hR : Rep t 0 m) : xCall (d + 1) 75 [(2, ((2 : Nat) : Int)), (0, x), (0, y)] g t (zQ 0 g t (some (0, y_at m x y), m)) := by
  show xOk (d + 1) 75 0 [(2, ((2 : Nat) : Int)), (0, x), (0, y), (3, 0)] [] g t _
  have iNn_ := iNn hI
  have hs : 0 < 3 := by decide
  have hs1 : 1 < 3 := by decide
  have hs2 : 2 < 3 := by decide
  refine xk_load rfl (p := 1) rfl rfl ?_
  refine xk_getf rfl (p := 4) rfl (xob (ly_x L) (by decide)) (v := (2, (((5 + 89 * 0) : Nat) : Int))) (xsl2 rfl (ly_x1 L)) ?_
  refine xk_load rfl (p := 5) rfl rfl ?_
  refine xk_callp rfl (p := 8) rfl (by decide) rfl (Nat.le_of_ble_eq_true rfl) (Nat.le_of_ble_eq_true rfl) (xrv (ly_st L hs) (by decide)) (as := [(2, (((5 + 89 * 0) : Nat) : Int)), (0, x)]) (r := []) rfl (v := (0, (if 0 ≤ x ∧ x < m 292 0 then (1 : Int) else 0))) (c_isName L hs hI hR) ?_
  have iNn_ := iNn hI
  refine xk_if rfl (p := 11) rfl (fun c8_1 => ?_) (fun c8_1 => ?_)
  · replace c8_1 : 0 ≤ x ∧ x < m 292 0 := xb_n0 c8_1
    refine xk_load rfl (p := 14) rfl rfl ?_
    refine xk_if rfl (p := 17) rfl (fun c14_2 => ?_) (fun c14_2 => ?_)
    · replace c14_2 : 0 ≤ y := c14_2
      refine xk_load rfl (p := 21) rfl rfl ?_
      refine xk_getf rfl (p := 24) rfl (xob (ly_x L) (by decide)) (v := (2, (((5 + 89 * 0) : Nat) : Int))) (xsl2 rfl (ly_x1 L)) ?_
      refine xk_getf rfl (p := 27) rfl (xob (ly_st L hs) (by decide)) (v := (2, (((6 + 89 * 0) : Nat) : Int))) (xsl2 rfl (ly_s0 L hs)) ?_
      refine xk_load rfl (p := 28) rfl rfl ?_
      refine xk_aldi rfl (p := 29) rfl (show 0 ≤ x by omega) (v := (2, (((18 + 89 * 0 + 5 * (x.toNat)) : Nat) : Int))) (xal2 (ly_sn L hs) (by decide) (show x.toNat < 12 by omega) (ly_ne L hs (show x.toNat < 12 by omega))) ?_
      refine xk_store rfl (p := 30) rfl (by decide) (Nat.le_of_ble_eq_true rfl) (ls' := [(2, ((2 : Nat) : Int)), (0, x), (0, y), (2, (((18 + 89 * 0 + 5 * (x.toNat)) : Nat) : Int))]) rfl ?_
      refine xk_load rfl (p := 31) rfl rfl ?_
      refine xk_getf rfl (p := 34) rfl (xob ((ly_nm L hs (show x.toNat < 12 by omega)).1) (by decide)) (v := (2, ((((18 + 89 * 0 + 5 * (x.toNat)) + 1) : Nat) : Int))) (xsl2 rfl ((ly_nm L hs (show x.toNat < 12 by omega)).2.2)) ?_
      refine xk_load rfl (p := 35) rfl rfl ?_
      refine xk_load rfl (p := 36) rfl rfl ?_
      refine xk_callp rfl (p := 39) rfl (by decide) rfl (Nat.le_of_ble_eq_true rfl) (Nat.le_of_ble_eq_true rfl) (xrv ((ly_nm L hs (show x.toNat < 12 by omega)).1) (by decide)) (as := [(2, (((18 + 89 * 0 + 5 * (x.toNat)) : Nat) : Int))]) (r := [(0, y), (2, ((((18 + 89 * 0 + 5 * (x.toNat)) + 1) : Nat) : Int))]) rfl (v := (0, sSto m (x.toNat))) (c_stored L hs hI hR (show x.toNat < nN m by omega)) ?_
      refine xk_callp rfl (p := 42) rfl (by decide) rfl (Nat.le_of_ble_eq_true rfl) (Nat.le_of_ble_eq_true rfl) (xrv ((ly_nm L hs (show x.toNat < 12 by omega)).2.1.1) (by decide)) (as := [(2, ((((18 + 89 * 0 + 5 * (x.toNat)) + 1) : Nat) : Int)), (0, y), (0, sSto m (x.toNat))]) (r := []) rfl (v := (0, (if nJ m x.toNat = 0 then sSto m (x.toNat) else sAt m x.toNat y))) (c_wasAt L hs hI hR (show x.toNat < nN m by omega)) ?_
      refine xk_ret rfl (rfl) ?_
      exact zRet (congrArg (fun z => (some ((0, z) : xV), m)) (show y_at m x y = (if nJ m x.toNat = 0 then sSto m (x.toNat) else sAt m x.toNat y) from ((if_pos (by omega)).trans (if_pos (by omega))))) hR Fr.rf
    · replace c14_2 : ¬ (0 ≤ y) := c14_2
      refine xk_push rfl (p := 19) rfl ?_
      refine xk_ret rfl (rfl) ?_
      exact zRet (congrArg (fun z => (some ((0, z) : xV), m)) (show y_at m x y = (-2) from ((if_pos (by omega)).trans (if_neg (by omega))))) hR Fr.rf
  · replace c8_1 : ¬ (0 ≤ x ∧ x < m 292 0) := xb_e1 c8_1
    refine xk_push rfl (p := 12) rfl ?_
    refine xk_ret rfl (rfl) ?_
    exact zRet (congrArg (fun z => (some ((0, z) : xV), m)) (show y_at m x y = (-1) from (if_neg (by omega)))) hR Fr.rf
