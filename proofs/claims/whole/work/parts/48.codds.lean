/-! THE CLASS: ODDS, MEAN, TAKEN -/
theorem xdiv_n {x y : Int} (h0 : 0 ≤ x) (h1 : x < 100000) (h2 : 0 < y) (h3 : y < 100000) : xdiv x y = ((x.toNat / y.toNat : Nat) : Int) ∧ Int32.ofInt x / Int32.ofInt y = Int32.ofInt ((x.toNat / y.toNat : Nat) : Int) := by
  have hq : (x.toNat / y.toNat : Nat) ≤ x.toNat := Nat.div_le_self _ _
  have e : x.tdiv y = ((x.toNat / y.toNat : Nat) : Int) := by
    rw [Int.tdiv_eq_ediv_of_nonneg h0, Int.natCast_ediv, Int.toNat_of_nonneg h0, Int.toNat_of_nonneg (by omega)]
  generalize x.toNat / y.toNat = k at hq e ⊢
  have d : Int32.ofInt x / Int32.ofInt y = Int32.ofInt ((k : Nat) : Int) := by
    apply Int32.toInt.inj
    rw [Int32.toInt_div, i32_rt (by omega) (by omega), i32_rt (by omega) (by omega), e, i32_rt (by omega) (by omega)]
    exact Int.bmod_eq_of_le (by omega) (by omega)
  refine ⟨?_, d⟩
  unfold xdiv
  rw [d]
  exact i32_rt (by omega) (by omega)
theorem xrem_n {x y : Int} (h0 : 0 ≤ x) (h1 : x < 100000) (h2 : 0 < y) (h3 : y < 100000) : xrem x y = ((x.toNat % y.toNat : Nat) : Int) := by
  have hm := Nat.div_add_mod x.toNat y.toNat
  have hc : y.toNat * (x.toNat / y.toNat) = x.toNat / y.toNat * y.toNat := Nat.mul_comm _ _
  have hx : x = ((x.toNat : Nat) : Int) := by omega
  have hy : y = ((y.toNat : Nat) : Int) := by omega
  unfold xrem
  rw [(xdiv_n h0 h1 h2 h3).2]
  have e : Int32.ofInt ((x.toNat / y.toNat : Nat) : Int) * Int32.ofInt y = Int32.ofInt (((x.toNat / y.toNat * y.toNat : Nat)) : Int) := by
    rw [← Int32.ofInt_mul, Int.natCast_mul, ← hy]
  rw [e, ← Int32.ofInt_sub]
  have : x - ((x.toNat / y.toNat * y.toNat : Nat) : Int) = ((x.toNat % y.toNat : Nat) : Int) := by omega
  rw [this]
  have := Nat.mod_le x.toNat y.toNat
  exact i32_rt (by omega) (by omega)
theorem xldiv_c {x y : Int} (h0 : 0 ≤ x) (h1 : x < 100000) (h2 : 0 < y) (h3 : y < 100000) : xldiv x y = xdiv x y := by
  have hq : (x.toNat / y.toNat : Nat) ≤ x.toNat := Nat.div_le_self _ _
  rw [(xdiv_n h0 h1 h2 h3).1]
  unfold xldiv
  rw [xldiv_n h0 h1 h2 h3, Int.tdiv_eq_ediv_of_nonneg h0, show x / y = ((x.toNat / y.toNat : Nat) : Int) by rw [Int.natCast_ediv, Int.toNat_of_nonneg h0, Int.toNat_of_nonneg (by omega)]]
  generalize x.toNat / y.toNat = k at hq ⊢
  exact i64_rt (by omega) (by omega)
theorem gcd_is {a b k : Nat} (hk : 1 ≤ k) (hb : 0 < b) (h1 : a % k = 0) (h2 : b % k = 0) (h3 : ∀ d, k < d → d ≤ b → ¬ (a % d = 0 ∧ b % d = 0)) : Nat.gcd a b = k := by
  have g1 : k ∣ Nat.gcd a b := Nat.dvd_gcd (Nat.dvd_of_mod_eq_zero h1) (Nat.dvd_of_mod_eq_zero h2)
  have g2 : Nat.gcd a b ≤ b := Nat.le_of_dvd hb (Nat.gcd_dvd_right a b)
  have g3 : 0 < Nat.gcd a b := Nat.gcd_pos_of_pos_right a hb
  have g4 := Nat.le_of_dvd g3 g1
  apply Classical.byContradiction
  intro hn
  exact h3 (Nat.gcd a b) (by omega) g2 ⟨Nat.mod_eq_zero_of_dvd (Nat.gcd_dvd_left a b), Nat.mod_eq_zero_of_dvd (Nat.gcd_dvd_right a b)⟩
theorem c_gcd {d : Nat} {a b : Int} {g : xG} {t : xD} (h1 : 0 ≤ a) (h2 : a < 100000) (h3 : 0 < b) (h4 : b < 100000) : xCall (d) 113 [(0, a), (0, b)] g t (xQ g t (some (0, sGcd a b))) := by
  show xOk (d) 113 0 [(0, a), (0, b), (3, 0)] [] g t _
  refine xk_load rfl (p := 1) rfl rfl ?_
  refine xk_store rfl (p := 2) rfl (by decide) (Nat.le_of_ble_eq_true rfl) (ls' := [(0, a), (0, b), (0, b)]) rfl ?_
  have lp1 : ∀ e : Nat, e ≤ b.toNat → ∀ (v : Int), (v = b - e) → (∀ d : Nat, v < d → d ≤ b.toNat → ¬ (a.toNat % d = 0 ∧ b.toNat % d = 0)) → xOk (d) 113 2 [(0, a), (0, b), (0, v)] [] g t (xQ g t (some (0, sGcd a b))) := by
    refine xk_up (b.toNat) (fun e hke ih1 v hi1 hi2 => ?_)
    refine xk_load rfl (p := 3) rfl rfl ?_
    refine xk_push rfl (p := 4) rfl ?_
    refine xk_icmp rfl (p := 7) rfl (fun c4_2 => ?_) (fun c4_2 => ?_)
    · replace c4_2 : v ≤ 1 := c4_2
      refine xk_push rfl (p := 28) rfl ?_
      refine xk_rete rfl (rfl) ?_
      unfold sGcd
      rw [gcd_is (k := 1) (by omega) (by omega) (Nat.mod_one _) (Nat.mod_one _) (fun d x1 x2 => hi2 d (by omega) x2)]
      rfl
    · replace c4_2 : ¬ (v ≤ 1) := c4_2
      refine xk_load rfl (p := 8) rfl rfl ?_
      refine xk_load rfl (p := 9) rfl rfl ?_
      refine xk_bin rfl (p := 10) rfl (z := xrem a v) (if_neg (by omega)) ?_
      have ra_ := xrem_n (x := a) (y := v) (by omega) (by omega) (by omega) (by omega)
      refine xk_if rfl (p := 13) rfl (fun c10_3 => ?_) (fun c10_3 => ?_)
      · replace c10_3 : ¬ (xrem a v = 0) := c10_3
        have e4 : xadd (v) (-1) = v - 1 := (xadd_r (by omega) (by omega)).trans (by omega)
        refine xk_iinc rfl (p := 24) rfl (x := v) rfl (ls' := [(0, a), (0, b), (0, (v - 1))]) (by rw [e4]; rfl) ?_
        refine xk_goto rfl ?_
        exact ih1 (by omega) (v - 1) (by omega) (by exact fun d x1 x2 => dite (d = v.toNat) (fun cd => by subst cd; omega) (fun cd => hi2 d (by omega) x2))
      · replace c10_3 : xrem a v = 0 := Decidable.not_not.mp c10_3
        refine xk_load rfl (p := 14) rfl rfl ?_
        refine xk_load rfl (p := 15) rfl rfl ?_
        refine xk_bin rfl (p := 16) rfl (z := xrem b v) (if_neg (by omega)) ?_
        have rb_ := xrem_n (x := b) (y := v) (by omega) (by omega) (by omega) (by omega)
        refine xk_if rfl (p := 19) rfl (fun c16_5 => ?_) (fun c16_5 => ?_)
        · replace c16_5 : ¬ (xrem b v = 0) := c16_5
          have e6 : xadd (v) (-1) = v - 1 := (xadd_r (by omega) (by omega)).trans (by omega)
          refine xk_iinc rfl (p := 24) rfl (x := v) rfl (ls' := [(0, a), (0, b), (0, (v - 1))]) (by rw [e6]; rfl) ?_
          refine xk_goto rfl ?_
          exact ih1 (by omega) (v - 1) (by omega) (by exact fun d x1 x2 => dite (d = v.toNat) (fun cd => by subst cd; omega) (fun cd => hi2 d (by omega) x2))
        · replace c16_5 : xrem b v = 0 := Decidable.not_not.mp c16_5
          refine xk_load rfl (p := 20) rfl rfl ?_
          refine xk_rete rfl (rfl) ?_
          unfold sGcd
          rw [gcd_is (k := v.toNat) (by omega) (by omega) (by omega) (by omega) (fun d x1 x2 => hi2 d (by omega) x2)]
          omega
  exact lp1 0 (by omega) b (by omega) (by intro d x1 x2; omega)

theorem sGcd_pos {a b : Int} (h : 0 < b) : 0 < sGcd a b ∧ sGcd a b ≤ b := by
  have g2 : Nat.gcd a.toNat b.toNat ≤ b.toNat := Nat.le_of_dvd (by omega) (Nat.gcd_dvd_right _ _)
  have g3 : 0 < Nat.gcd a.toNat b.toNat := Nat.gcd_pos_of_pos_right _ (by omega)
  unfold sGcd
  omega
theorem c_fraction {d : Nat} {a b p : Int} {g : xG} {t : xD} (h1 : 0 ≤ a) (h2 : a < 100000) (h3 : 0 ≤ b) (h4 : b < 100000) : xCall (d + 1) 112 [(0, a), (0, b), (0, p)] g t (xQ g t (some (1, if 0 < b ∧ 0 ≤ p ∧ p ≤ 1 then sPt a b p else (-9223372036854775808)))) := by
  show xOk (d + 1) 112 0 [(0, a), (0, b), (0, p), (3, 0)] [] g t _
  refine xk_load rfl (p := 1) rfl rfl ?_
  refine xk_if rfl (p := 4) rfl (fun c1_1 => ?_) (fun c1_1 => ?_)
  · replace c1_1 : b ≤ 0 := c1_1
    refine xk_push rfl (p := 16) rfl ?_
    refine xk_rete rfl (rfl) ?_
    exact (if_neg (by omega)).symm
  · replace c1_1 : ¬ (b ≤ 0) := c1_1
    refine xk_load rfl (p := 5) rfl rfl ?_
    refine xk_if rfl (p := 8) rfl (fun c5_2 => ?_) (fun c5_2 => ?_)
    · replace c5_2 : p < 0 := c5_2
      refine xk_push rfl (p := 16) rfl ?_
      refine xk_rete rfl (rfl) ?_
      exact (if_neg (by omega)).symm
    · replace c5_2 : ¬ (p < 0) := c5_2
      refine xk_load rfl (p := 9) rfl rfl ?_
      refine xk_push rfl (p := 10) rfl ?_
      refine xk_icmp rfl (p := 13) rfl (fun c10_3 => ?_) (fun c10_3 => ?_)
      · replace c10_3 : p ≤ 1 := c10_3
        refine xk_load rfl (p := 18) rfl rfl ?_
        refine xk_load rfl (p := 19) rfl rfl ?_
        refine xk_callp rfl (p := 22) rfl (by decide) rfl (Nat.le_of_ble_eq_true rfl) (Nat.le_of_ble_eq_true rfl) (rfl) (as := [(0, a), (0, b)]) (r := []) rfl (v := (0, sGcd a b)) (c_gcd (by omega) (by omega) (by omega) (by omega)) ?_
        have gp_ := sGcd_pos (a := a) (b := b) (by omega)
        refine xk_store rfl (p := 23) rfl (by decide) (Nat.le_of_ble_eq_true rfl) (ls' := [(0, a), (0, b), (0, p), (0, sGcd a b)]) rfl ?_
        refine xk_load rfl (p := 24) rfl rfl ?_
        refine xk_if rfl (p := 27) rfl (fun c24_4 => ?_) (fun c24_4 => ?_)
        · replace c24_4 : ¬ (p = 0) := c24_4
          refine xk_load rfl (p := 35) rfl rfl ?_
          refine xk_load rfl (p := 36) rfl rfl ?_
          refine xk_bin rfl (p := 37) rfl (z := xdiv b (sGcd a b)) (if_neg (by omega)) ?_
          refine xk_un rfl (p := 38) rfl (w := (1, xdiv b (sGcd a b))) (rfl) ?_
          refine xk_rete rfl (rfl) ?_
          rw [if_pos (by omega)]
          unfold sPt
          rw [if_neg (by omega), xldiv_c (by omega) (by omega) (by omega) (by omega)]
        · replace c24_4 : p = 0 := Decidable.not_not.mp c24_4
          refine xk_load rfl (p := 28) rfl rfl ?_
          refine xk_load rfl (p := 29) rfl rfl ?_
          refine xk_bin rfl (p := 30) rfl (z := xdiv a (sGcd a b)) (if_neg (by omega)) ?_
          refine xk_un rfl (p := 31) rfl (w := (1, xdiv a (sGcd a b))) (rfl) ?_
          refine xk_goto rfl ?_
          refine xk_rete rfl (rfl) ?_
          rw [if_pos (by omega)]
          unfold sPt
          rw [if_pos (by omega), xldiv_c (by omega) (by omega) (by omega) (by omega)]
      · replace c10_3 : ¬ (p ≤ 1) := c10_3
        refine xk_push rfl (p := 16) rfl ?_
        refine xk_rete rfl (rfl) ?_
        exact (if_neg (by omega)).symm

theorem c_odds {d : Nat} {g : xG} {t m : xD} {x y z w : Int} (L : xLay g) (hI : Inv m) (hR : Rep t 0 m) (hx : xr32 x) : xCall (d + 16) 92 [(2, ((2 : Nat) : Int)), (0, x), (0, y), (0, z), (0, w)] g t (oQ g t m (1, y_odds m x y z w)) := by
  show xOk (d + 16) 92 0 [(2, ((2 : Nat) : Int)), (0, x), (0, y), (0, z), (0, w)] [] g t _
  have iNn_ := iNn hI
  have hs : 0 < 3 := by decide
  have hs1 : 1 < 3 := by decide
  have hs2 : 2 < 3 := by decide
  refine xk_load rfl (p := 1) rfl rfl ?_
  refine xk_getf rfl (p := 4) rfl (xob (ly_x L) (by decide)) (v := (2, (((5 + 89 * 0) : Nat) : Int))) (xsl2 rfl (ly_x1 L)) ?_
  refine xk_load rfl (p := 5) rfl rfl ?_
  refine xk_callp rfl (p := 8) rfl (by decide) rfl (Nat.le_of_ble_eq_true rfl) (Nat.le_of_ble_eq_true rfl) (xrv (ly_st L hs) (by decide)) (as := [(2, (((5 + 89 * 0) : Nat) : Int)), (0, x)]) (r := []) rfl (v := (0, (if bSet m x = true then (1 : Int) else 0))) (c_isSet L hs hI hR hx) ?_
  refine xk_if rfl (p := 11) rfl (fun c8_1 => ?_) (fun c8_1 => ?_)
  · replace c8_1 : ¬ (bSet m x = true) := xb_e0 c8_1
    refine xk_push rfl (p := 32) rfl ?_
    refine xk_ret rfl (rfl) ?_
    exact ⟨rfl, congrArg (fun z => some ((1, z) : xV)) (by unfold y_odds; (repeat' split) <;> first | rfl | (exfalso; omega) | (exfalso; simp_all; done)), hR, Gt.rf⟩
  · replace c8_1 : bSet m x = true := xb_n0 c8_1
    refine xk_load rfl (p := 12) rfl rfl ?_
    refine xk_getf rfl (p := 15) rfl (xob (ly_x L) (by decide)) (v := (2, (((5 + 89 * 0) : Nat) : Int))) (xsl2 rfl (ly_x1 L)) ?_
    refine xk_load rfl (p := 16) rfl rfl ?_
    refine xk_callp rfl (p := 19) rfl (by decide) rfl (Nat.le_of_ble_eq_true rfl) (Nat.le_of_ble_eq_true rfl) (xrv (ly_st L hs) (by decide)) (as := [(2, (((5 + 89 * 0) : Nat) : Int)), (0, y)]) (r := []) rfl (v := (0, (if 0 ≤ y ∧ y < m 292 0 then (1 : Int) else 0))) (c_isName L hs hI hR) ?_
    have iNn_ := iNn hI
    refine xk_if rfl (p := 22) rfl (fun c19_2 => ?_) (fun c19_2 => ?_)
    · replace c19_2 : ¬ (0 ≤ y ∧ y < m 292 0) := xb_e0 c19_2
      refine xk_push rfl (p := 32) rfl ?_
      refine xk_ret rfl (rfl) ?_
      exact ⟨rfl, congrArg (fun z => some ((1, z) : xV)) (by unfold y_odds; (repeat' split) <;> first | rfl | (exfalso; omega) | (exfalso; simp_all; done)), hR, Gt.rf⟩
    · replace c19_2 : 0 ≤ y ∧ y < m 292 0 := xb_n0 c19_2
      refine xk_load rfl (p := 23) rfl rfl ?_
      refine xk_callp rfl (p := 26) rfl (by decide) rfl (Nat.le_of_ble_eq_true rfl) (Nat.le_of_ble_eq_true rfl) (rfl) (as := [(0, z)]) (r := []) rfl (v := (0, (if 0 ≤ z ∧ z ≤ 999 then (1 : Int) else 0))) (c_isRevision) ?_
      refine xk_if rfl (p := 29) rfl (fun c26_3 => ?_) (fun c26_3 => ?_)
      · replace c26_3 : 0 ≤ z ∧ z ≤ 999 := xb_n0 c26_3
        refine xk_load rfl (p := 34) rfl rfl ?_
        refine xk_getf rfl (p := 37) rfl (xob (ly_x L) (by decide)) (v := (2, ((272 : Nat) : Int))) (xsl2 rfl (ly_x4 L)) ?_
        refine xk_load rfl (p := 38) rfl rfl ?_
        refine xk_getf rfl (p := 41) rfl (xob (ly_x L) (by decide)) (v := (2, (((5 + 89 * 0) : Nat) : Int))) (xsl2 rfl (ly_x1 L)) ?_
        refine xk_load rfl (p := 42) rfl rfl ?_
        refine xk_load rfl (p := 43) rfl rfl ?_
        refine xk_load rfl (p := 44) rfl rfl ?_
        refine xk_call rfl (p := 47) rfl (by decide) rfl (Nat.le_of_ble_eq_true rfl) (Nat.le_of_ble_eq_true rfl) (xrv (ly_o L) (by decide)) (as := [(2, ((272 : Nat) : Int)), (2, (((5 + 89 * 0) : Nat) : Int)), (0, x), (0, y), (0, z)]) (r := []) rfl (c_run (x := x) (y := y) (z := z) L hI hR (by assumption) (by omega)) ?_
        rintro _ g w9 ⟨rfl, rfl, hG9, hA9⟩
        have hN9 := ac5_N hA9
        refine xk_load rfl (p := 48) rfl rfl ?_
        refine xk_getf rfl (p := 51) rfl (xob (ly_x L) (by decide)) (v := (2, ((272 : Nat) : Int))) (xsl2 rfl (ly_x4 L)) ?_
        refine xk_getf rfl (p := 54) rfl (xob (ly_o L) (by decide)) (v := (0, (exN m y z x).2.1)) (xsl0 rfl (hN9.2.1)) ?_
        refine xk_load rfl (p := 55) rfl rfl ?_
        refine xk_getf rfl (p := 58) rfl (xob (ly_x L) (by decide)) (v := (2, ((272 : Nat) : Int))) (xsl2 rfl (ly_x4 L)) ?_
        refine xk_getf rfl (p := 61) rfl (xob (ly_o L) (by decide)) (v := (0, (exN m y z x).1)) (xsl0 rfl (hN9.1)) ?_
        refine xk_load rfl (p := 63) rfl rfl ?_
        have bd_ := @exN_bd m y z x
        refine xk_callp rfl (p := 66) rfl (by decide) rfl (Nat.le_of_ble_eq_true rfl) (Nat.le_of_ble_eq_true rfl) (rfl) (as := [(0, (exN m y z x).2.1), (0, (exN m y z x).1), (0, w)]) (r := []) rfl (v := (1, (if 0 < (exN m y z x).1 ∧ 0 ≤ w ∧ w ≤ 1 then sPt ((exN m y z x).2.1) ((exN m y z x).1) w else (-9223372036854775808)))) (c_fraction (by omega) (by omega) (by omega) (by omega)) ?_
        refine xk_ret rfl (rfl) ?_
        exact ⟨rfl, congrArg (fun z => some ((1, z) : xV)) (by unfold y_odds; (repeat' split) <;> first | rfl | (exfalso; omega) | (exfalso; simp_all; done)), hR.gt hI hs hG9, hG9⟩
      · replace c26_3 : ¬ (0 ≤ z ∧ z ≤ 999) := xb_e1 c26_3
        refine xk_push rfl (p := 32) rfl ?_
        refine xk_ret rfl (rfl) ?_
        exact ⟨rfl, congrArg (fun z => some ((1, z) : xV)) (by unfold y_odds; (repeat' split) <;> first | rfl | (exfalso; omega) | (exfalso; simp_all; done)), hR, Gt.rf⟩

theorem c_mean {d : Nat} {g : xG} {t m : xD} {w : Int} (L : xLay g) (hI : Inv m) (hR : Rep t 0 m) : xCall (d + 2) 93 [(2, ((2 : Nat) : Int)), (0, w)] g t (oQ g t m (1, y_mean m w)) := by
  show xOk (d + 2) 93 0 [(2, ((2 : Nat) : Int)), (0, w), (3, 0), (3, 0)] [] g t _
  have iNn_ := iNn hI
  have hs : 0 < 3 := by decide
  have hs1 : 1 < 3 := by decide
  have hs2 : 2 < 3 := by decide
  refine xk_push rfl (p := 1) rfl ?_
  refine xk_store rfl (p := 2) rfl (by decide) (Nat.le_of_ble_eq_true rfl) (ls' := [(2, ((2 : Nat) : Int)), (0, w), (0, 0), (3, 0)]) rfl ?_
  refine xk_push rfl (p := 3) rfl ?_
  refine xk_store rfl (p := 4) rfl (by decide) (Nat.le_of_ble_eq_true rfl) (ls' := [(2, ((2 : Nat) : Int)), (0, w), (0, 0), (0, 0)]) rfl ?_
  have lp1 : ∀ k : Nat, k ≤ nN m → ∀ (z : Nat), (z = xsum (fun n => nJ m n) k) → xOk (d + 2) 93 4 [(2, ((2 : Nat) : Int)), (0, w), (0, ((z : Nat) : Int)), (0, ((k : Nat) : Int))] [] g t (oQ g t m (1, y_mean m w)) := by
    refine xk_up (nN m) (fun k hkk ih1 z hi1 => ?_)
    have sb_ := xsum_bd hI k hkk
    rw [← hi1] at sb_
    refine xk_load rfl (p := 5) rfl rfl ?_
    refine xk_load rfl (p := 6) rfl rfl ?_
    refine xk_getf rfl (p := 9) rfl (xob (ly_x L) (by decide)) (v := (2, (((5 + 89 * 0) : Nat) : Int))) (xsl2 rfl (ly_x1 L)) ?_
    refine xk_getf rfl (p := 12) rfl (xob (ly_st L hs) (by decide)) (v := (0, ((nN m : Nat) : Int))) (xsl0 rfl (rNn hR hI)) ?_
    have iNn_ := iNn hI
    refine xk_icmp rfl (p := 15) rfl (fun c12_2 => ?_) (fun c12_2 => ?_)
    · replace c12_2 : ((nN m : Nat) : Int) ≤ ((k : Nat) : Int) := c12_2
      refine xk_load rfl (p := 40) rfl rfl ?_
      refine xk_load rfl (p := 41) rfl rfl ?_
      refine xk_getf rfl (p := 44) rfl (xob (ly_x L) (by decide)) (v := (2, (((5 + 89 * 0) : Nat) : Int))) (xsl2 rfl (ly_x1 L)) ?_
      refine xk_getf rfl (p := 47) rfl (xob (ly_st L hs) (by decide)) (v := (0, ((nN m : Nat) : Int))) (xsl0 rfl (rNn hR hI)) ?_
      have iNn_ := iNn hI
      refine xk_load rfl (p := 48) rfl rfl ?_
      refine xk_callp rfl (p := 51) rfl (by decide) rfl (Nat.le_of_ble_eq_true rfl) (Nat.le_of_ble_eq_true rfl) (rfl) (as := [(0, ((z : Nat) : Int)), (0, ((nN m : Nat) : Int)), (0, w)]) (r := []) rfl (v := (1, (if 0 < ((nN m : Nat) : Int) ∧ 0 ≤ w ∧ w ≤ 1 then sPt ((z : Nat) : Int) ((nN m : Nat) : Int) w else (-9223372036854775808)))) (c_fraction (by omega) (by omega) (by omega) (by omega)) ?_
      refine xk_ret rfl (rfl) ?_
      exact ⟨rfl, congrArg (fun z => some ((1, z) : xV)) (by
        rw [hi1, show k = nN m by omega]
        unfold y_mean
        (repeat' split) <;> first | rfl | (exfalso; omega)), hR, Gt.rf⟩
    · replace c12_2 : ¬ (((nN m : Nat) : Int) ≤ ((k : Nat) : Int)) := c12_2
      refine xk_load rfl (p := 16) rfl rfl ?_
      refine xk_load rfl (p := 17) rfl rfl ?_
      refine xk_getf rfl (p := 20) rfl (xob (ly_x L) (by decide)) (v := (2, (((5 + 89 * 0) : Nat) : Int))) (xsl2 rfl (ly_x1 L)) ?_
      refine xk_getf rfl (p := 23) rfl (xob (ly_st L hs) (by decide)) (v := (2, (((6 + 89 * 0) : Nat) : Int))) (xsl2 rfl (ly_s0 L hs)) ?_
      refine xk_load rfl (p := 24) rfl rfl ?_
      refine xk_ald rfl (p := 25) rfl (v := (2, (((18 + 89 * 0 + 5 * k) : Nat) : Int))) (xal2 (ly_sn L hs) (by decide) (show k < 12 by omega) (ly_ne L hs (show k < 12 by omega))) ?_
      refine xk_getf rfl (p := 28) rfl (xob ((ly_nm L hs (show k < 12 by omega)).1) (by decide)) (v := (2, ((((18 + 89 * 0 + 5 * k) + 1) : Nat) : Int))) (xsl2 rfl ((ly_nm L hs (show k < 12 by omega)).2.2)) ?_
      refine xk_getf rfl (p := 31) rfl (xob ((ly_nm L hs (show k < 12 by omega)).2.1.1) (by decide)) (v := (0, ((nJ m k : Nat) : Int))) (xsl0 rfl ((rJn hR (show k < nN m by omega)).trans (iJn hI (show k < nN m by omega)).1)) ?_
      have iJn_ := iJn hI (show k < nN m by omega)
      refine xk_bin rfl (p := 32) rfl (z := ((z + (nJ m k) : Nat) : Int)) (congrArg some (xadd_n (n := z) (m := nJ m k) (by omega))) ?_
      refine xk_store rfl (p := 33) rfl (by decide) (Nat.le_of_ble_eq_true rfl) (ls' := [(2, ((2 : Nat) : Int)), (0, w), (0, ((z + (nJ m k) : Nat) : Int)), (0, ((k : Nat) : Int))]) rfl ?_
      refine xk_inc1 rfl (p := 36) rfl (n := k) rfl (by omega) (ls' := [(2, ((2 : Nat) : Int)), (0, w), (0, ((z + (nJ m k) : Nat) : Int)), (0, ((k + 1 : Nat) : Int))]) rfl ?_
      refine xk_goto rfl ?_
      exact ih1 (by omega) (z + (nJ m k)) (by show z + nJ m k = xsum (fun n => nJ m n) k + nJ m k; omega)
  exact lp1 0 (by omega) 0 (by rfl)
