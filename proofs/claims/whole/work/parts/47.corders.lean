/-! THE CLASS: ORDERS, COULD, FITS -/
/-- nothing but the tally has changed -/
def Gt (t u : xD) : Prop := ∀ b j, ¬ (272 ≤ b ∧ b < 279) → u b j = t b j
theorem Gt.rf {t : xD} : Gt t t := fun _ _ _ => rfl
theorem Gx.gt {e : Nat} {t u : xD} (h : Gx e t u) : Gt t u := fun b j hh => h b j (by omega)
theorem Gt.tr {t u v : xD} (h1 : Gt t u) (h2 : Gt u v) : Gt t v := fun a k h => (h2 a k h).trans (h1 a k h)
theorem Rep.gt {t u m : xD} {s : Nat} (h : Rep t s m) (hI : Inv m) (hs : s < 3) (g : Gt t u) : Rep u s m := h.st hI (fun a k h1 h2 => g a k (by omega))
def oQ (g : xG) (t m : xD) (v : xV) : Option xV → xG → xD → Prop := fun r g1 t1 => g1 = g ∧ r = some v ∧ Rep t1 0 m ∧ Gt t t1
theorem nCan_bit {m : xD} {d : Nat} : (nCan m).testBit d = true ↔ d < 4 ∧ 0 < m 300 d ∧ ¬ sCom m = ((d : Nat) : Int) := by
  unfold nCan
  rw [xbs_bit, decide_eq_true_iff]
theorem bSet_can {m : xD} {x : Int} (hx : xr32 x) : xand x (xxor ((nCan m : Nat) : Int) (-1)) = 0 ↔ bSet m x = true := by
  rw [and0_iff hx nCan_lt, bSet_iff]
  constructor
  · rintro ⟨h1, h2, h3⟩
    exact ⟨h1, h2, fun d hd hb => (nCan_bit.mp (h3 d hd hb)).2⟩
  · rintro ⟨h1, h2, h3⟩
    exact ⟨h1, h2, fun d hd hb => nCan_bit.mpr ⟨hd, h3 d hd hb⟩⟩
theorem c_isSet {d : Nat} {g : xG} {t m : xD} {s : Nat} {x : Int} (L : xLay g) (hs : s < 3) (hI : Inv m) (hR : Rep t s m) (hx : xr32 x) : xCall (d + 2) 42 [(2, (((5 + 89 * s) : Nat) : Int)), (0, x)] g t (xQ g t (some (0, if bSet m x = true then (1 : Int) else 0))) := by
  show xOk (d + 2) 42 0 [(2, (((5 + 89 * s) : Nat) : Int)), (0, x)] [] g t _
  refine xk_load rfl (p := 1) rfl rfl ?_
  refine xk_load rfl (p := 2) rfl rfl ?_
  refine xk_callp rfl (p := 5) rfl (by decide) rfl (Nat.le_of_ble_eq_true rfl) (Nat.le_of_ble_eq_true rfl) (xrv (ly_st L hs) (by decide)) (as := [(2, (((5 + 89 * s) : Nat) : Int))]) (r := [(0, x)]) rfl (v := (0, ((nCan m : Nat) : Int))) (xCall_eq (c_dealsThatCanGo L hs hI hR) cCan_eq) ?_
  have nCan_ := nCan_lt (m := m)
  refine xk_push rfl (p := 6) rfl ?_
  refine xk_bin rfl (p := 7) rfl (z := xxor ((nCan m : Nat) : Int) (-1)) (rfl) ?_
  refine xk_bin rfl (p := 8) rfl (z := xand x (xxor ((nCan m : Nat) : Int) (-1))) (rfl) ?_
  refine xk_if rfl (p := 11) rfl (fun c8_1 => ?_) (fun c8_1 => ?_)
  · replace c8_1 : ¬ (xand x (xxor ((nCan m : Nat) : Int) (-1)) = 0) := c8_1
    refine xk_push rfl (p := 16) rfl ?_
    refine xk_rete rfl (rfl) ?_
    exact (if_neg (fun h => absurd ((bSet_can hx).mpr h) (by assumption))).symm
  · replace c8_1 : xand x (xxor ((nCan m : Nat) : Int) (-1)) = 0 := Decidable.not_not.mp c8_1
    refine xk_push rfl (p := 12) rfl ?_
    refine xk_goto rfl ?_
    refine xk_rete rfl (rfl) ?_
    exact (if_pos ((bSet_can hx).mp (by assumption))).symm

theorem c_run {d : Nat} {g : xG} {t m : xD} {x y z : Int} (L : xLay g) (hI : Inv m) (hR : Rep t 0 m) (hx : bSet m x = true) (haa : y = -1 ∨ (0 ≤ y ∧ y < m 292 0)) : xCall (d + 10) 22 [(2, ((272 : Nat) : Int)), (2, (((5 + 89 * 0) : Nat) : Int)), (0, x), (0, y), (0, z)] g t (fun r g1 t1 => g1 = g ∧ r = none ∧ Gt t t1 ∧ ac5 t1 (exC m y z x.toNat 4 x.toNat (sVal m) 0 ((0, 0, 0, -5), 0))) := by
  show xOk (d + 10) 22 0 [(2, ((272 : Nat) : Int)), (2, (((5 + 89 * 0) : Nat) : Int)), (0, x), (0, y), (0, z), (3, 0)] [] g t _
  have iNn_ := iNn hI
  have hs : 0 < 3 := by decide
  have hs1 : 1 < 3 := by decide
  have hs2 : 2 < 3 := by decide
  have set_ := bSet_iff.mp hx
  refine xk_load rfl (p := 1) rfl rfl ?_
  refine xk_load rfl (p := 2) rfl rfl ?_
  refine xk_putf rfl (p := 5) rfl (xob (ly_o L) (by decide)) rfl (by decide) (by decide) (fun h => absurd h (by decide)) (by omega) ?_
  refine xk_load rfl (p := 6) rfl rfl ?_
  refine xk_load rfl (p := 7) rfl rfl ?_
  refine xk_putf rfl (p := 10) rfl (xob (ly_o L) (by decide)) rfl (by decide) (by decide) (fun h => absurd h (by decide)) (by omega) ?_
  refine xk_load rfl (p := 11) rfl rfl ?_
  refine xk_load rfl (p := 13) rfl rfl ?_
  refine xk_putf rfl (p := 16) rfl (xob (ly_o L) (by decide)) rfl (by decide) (by decide) (fun h => absurd h (by decide)) (by omega) ?_
  refine xk_load rfl (p := 17) rfl rfl ?_
  refine xk_push rfl (p := 18) rfl ?_
  refine xk_putf rfl (p := 21) rfl (xob (ly_o L) (by decide)) rfl (by decide) (by decide) (fun h => absurd h (by decide)) (by omega) ?_
  refine xk_load rfl (p := 22) rfl rfl ?_
  refine xk_push rfl (p := 23) rfl ?_
  refine xk_putf rfl (p := 26) rfl (xob (ly_o L) (by decide)) rfl (by decide) (by decide) (fun h => absurd h (by decide)) (by omega) ?_
  refine xk_load rfl (p := 27) rfl rfl ?_
  refine xk_push rfl (p := 28) rfl ?_
  refine xk_putf rfl (p := 31) rfl (xob (ly_o L) (by decide)) rfl (by decide) (by decide) (fun h => absurd h (by decide)) (by omega) ?_
  refine xk_load rfl (p := 32) rfl rfl ?_
  refine xk_push rfl (p := 34) rfl ?_
  refine xk_putf rfl (p := 37) rfl (xob (ly_o L) (by decide)) rfl (by decide) (by decide) (fun h => absurd h (by decide)) (by omega) ?_
  refine xk_load rfl (p := 38) rfl rfl ?_
  refine xk_push rfl (p := 39) rfl ?_
  refine xk_putf rfl (p := 42) rfl (xob (ly_o L) (by decide)) rfl (by decide) (by decide) (fun h => absurd h (by decide)) (by omega) ?_
  refine xk_push rfl (p := 43) rfl ?_
  refine xk_store rfl (p := 45) rfl (by decide) (Nat.le_of_ble_eq_true rfl) (ls' := [(2, ((272 : Nat) : Int)), (2, (((5 + 89 * 0) : Nat) : Int)), (0, x), (0, y), (0, z), (0, 0)]) rfl ?_
  have lp1 : ∀ k : Nat, k ≤ nN m → ∀ (u1 : xD), (Gt t u1) → (ac5 u1 ((0, 0, 0, -5), 0)) → (u1 272 1 = x) → (u1 272 2 = y) → (u1 272 3 = z) → (∀ q, q < k → u1 (274 + 0) q = sVal m q) → xOk (d + 10) 22 45 [(2, ((272 : Nat) : Int)), (2, (((5 + 89 * 0) : Nat) : Int)), (0, x), (0, y), (0, z), (0, ((k : Nat) : Int))] [] g u1 (fun r g1 t1 => g1 = g ∧ r = none ∧ Gt t t1 ∧ ac5 t1 (exC m y z x.toNat 4 x.toNat (sVal m) 0 ((0, 0, 0, -5), 0))) := by
    refine xk_up (nN m) (fun k hkk ih1  u1 h1_1 h1_2 h1_3 h1_4 h1_5 h1_6 => ?_)
    refine xk_load rfl (p := 47) rfl rfl ?_
    refine xk_load rfl (p := 48) rfl rfl ?_
    refine xk_getf rfl (p := 51) rfl (xob (ly_st L hs) (by decide)) (v := (0, ((nN m : Nat) : Int))) (xsl0 rfl (rNn (hR.gt hI hs h1_1) hI)) ?_
    have iNn_ := iNn hI
    refine xk_icmp rfl (p := 54) rfl (fun c51_2 => ?_) (fun c51_2 => ?_)
    · replace c51_2 : ((nN m : Nat) : Int) ≤ ((k : Nat) : Int) := c51_2
      refine xk_load rfl (p := 76) rfl rfl ?_
      refine xk_load rfl (p := 77) rfl rfl ?_
      refine xk_push rfl (p := 78) rfl ?_
      refine xk_load rfl (p := 79) rfl rfl ?_
      refine xk_push rfl (p := 80) rfl ?_
      refine xk_stk (show _ = (0, 0) :: (0, ((x.toNat : Nat) : Int)) :: [(0, 0), (2, (((5 + 89 * 0) : Nat) : Int)), (2, ((272 : Nat) : Int))] from congrArg (fun z => ((0, 0) : xV) :: ((0, z) : xV) :: [(0, 0), (2, (((5 + 89 * 0) : Nat) : Int)), (2, ((272 : Nat) : Int))]) (Int.toNat_of_nonneg (show 0 ≤ x by omega)).symm) ?_
      refine xk_call rfl (p := 83) rfl (by decide) rfl (Nat.le_of_ble_eq_true rfl) (Nat.le_of_ble_eq_true rfl) (rfl) (as := [(2, ((272 : Nat) : Int)), (2, (((5 + 89 * 0) : Nat) : Int)), (0, ((0 : Nat) : Int)), (0, ((x.toNat : Nat) : Int)), (0, 0)]) (r := []) rfl (c_letGo 4 d x.toNat 0 x.toNat (sVal m) 0 y z ((0, 0, 0, -5), 0) g u1 m L (hR.gt hI hs h1_1) hI rfl (by omega) (xcnt_le 4) (by omega) haa (fun q hq hb => (set_.2.2 q hq hb).1) (fun q hq => h1_6 q (by omega)) h1_2 (by decide) (h1_3.trans (by omega)) h1_4 h1_5) ?_
      rintro _ g u2 ⟨rfl, rfl, hx2, hy2⟩
      refine xk_ret rfl (rfl) ?_
      exact ⟨rfl, rfl, h1_1.tr hx2.gt, hy2⟩
    · replace c51_2 : ¬ (((nN m : Nat) : Int) ≤ ((k : Nat) : Int)) := c51_2
      refine xk_load rfl (p := 55) rfl rfl ?_
      refine xk_getf rfl (p := 58) rfl (xob (ly_o L) (by decide)) (v := (2, ((273 : Nat) : Int))) (xsl2 rfl (ly_o0 L)) ?_
      refine xk_push rfl (p := 59) rfl ?_
      refine xk_ald rfl (p := 60) rfl (v := (2, (((274 + 0) : Nat) : Int))) (xal2 (ly_oo L) (by decide) (show 0 < 5 by omega) (ly_oe L (show 0 < 5 by omega))) ?_
      refine xk_load rfl (p := 62) rfl rfl ?_
      refine xk_load rfl (p := 63) rfl rfl ?_
      refine xk_load rfl (p := 65) rfl rfl ?_
      refine xk_callp rfl (p := 68) rfl (by decide) rfl (Nat.le_of_ble_eq_true rfl) (Nat.le_of_ble_eq_true rfl) (xrv (ly_st L hs) (by decide)) (as := [(2, (((5 + 89 * 0) : Nat) : Int)), (0, ((k : Nat) : Int))]) (r := [(0, ((k : Nat) : Int)), (2, (((274 + 0) : Nat) : Int))]) rfl (v := (0, sVal m k)) (xCall_eq (c_valueOf L hs hI (hR.gt hI hs h1_1) (show k < nN m by omega)) cVal_eq) ?_
      refine xk_ast rfl (p := 69) rfl (by decide) rfl (xsk (ly_oi L (show 0 < 5 by omega))) (xsn (ly_oi L (show 0 < 5 by omega)) (show k < 12 by omega)) (by omega) ?_
      refine xk_inc1 rfl (p := 72) rfl (n := k) rfl (by omega) (ls' := [(2, ((272 : Nat) : Int)), (2, (((5 + 89 * 0) : Nat) : Int)), (0, x), (0, y), (0, z), (0, ((k + 1 : Nat) : Int))]) rfl ?_
      refine xk_goto rfl ?_
      exact ih1 (by omega)  (xupd u1 (274 + 0) k (sVal m k)) (by exact fun b j hh => (xupd_ne (by omega)).trans (h1_1 b j hh)) (by exact h1_2.fr (fun j h1 h2 => xupd_ne (by omega))) (by exact (xupd_ne (by omega)).trans h1_3) (by exact (xupd_ne (by omega)).trans h1_4) (by exact (xupd_ne (by omega)).trans h1_5) (by exact fun q hq => dite (q = k) (fun cq => by subst cq; exact xupd_eq) (fun cq => (xupd_ne (by omega)).trans (h1_6 q (by omega))))
  exact lp1 0 (by omega)  (xupd (xupd (xupd (xupd (xupd (xupd (xupd (xupd t 272 1 x) 272 2 y) 272 3 z) 272 4 0) 272 5 0) 272 6 0) 272 7 (-5)) 272 8 0) (by exact fun b j hh => (xupd_ne (by omega)).trans ((xupd_ne (by omega)).trans ((xupd_ne (by omega)).trans ((xupd_ne (by omega)).trans ((xupd_ne (by omega)).trans ((xupd_ne (by omega)).trans ((xupd_ne (by omega)).trans (xupd_ne (by omega))))))))) (by exact ⟨rfl, rfl, rfl, rfl, rfl⟩) (by rfl) (by rfl) (by rfl) (by intro q hq; omega)

theorem exC_N {m : xD} {a w x : Int} : (exC m a w x.toNat 4 x.toNat (sVal m) 0 ((0, 0, 0, -5), 0)).1 = exN m a w x := exC_1 4 x.toNat (sVal m) 0 ((0, 0, 0, -5), 0)
theorem ac5_N {t m : xD} {a w x : Int} (h : ac5 t (exC m a w x.toNat 4 x.toNat (sVal m) 0 ((0, 0, 0, -5), 0))) : t 272 4 = (exN m a w x).1 ∧ t 272 5 = (exN m a w x).2.1 ∧ t 272 6 = (exN m a w x).2.2.1 ∧ t 272 7 = (exN m a w x).2.2.2 := by
  have e := exC_N (m := m) (a := a) (w := w) (x := x)
  rw [← e]
  exact ⟨h.1, h.2.1, h.2.2.1, h.2.2.2.1⟩
theorem c_orders {d : Nat} {g : xG} {t m : xD} {x : Int} (L : xLay g) (hI : Inv m) (hR : Rep t 0 m) (hx : xr32 x) : xCall (d + 16) 88 [(2, ((2 : Nat) : Int)), (0, x)] g t (oQ g t m (0, y_orders m x)) := by
  show xOk (d + 16) 88 0 [(2, ((2 : Nat) : Int)), (0, x)] [] g t _
  have iNn_ := iNn hI
  have hs : 0 < 3 := by decide
  have hs1 : 1 < 3 := by decide
  have hs2 : 2 < 3 := by decide
  refine xk_load rfl (p := 1) rfl rfl ?_
  refine xk_getf rfl (p := 4) rfl (xob (ly_x L) (by decide)) (v := (2, (((5 + 89 * 0) : Nat) : Int))) (xsl2 rfl (ly_x1 L)) ?_
  refine xk_load rfl (p := 5) rfl rfl ?_
  refine xk_callp rfl (p := 8) rfl (by decide) rfl (Nat.le_of_ble_eq_true rfl) (Nat.le_of_ble_eq_true rfl) (xrv (ly_st L hs) (by decide)) (as := [(2, (((5 + 89 * 0) : Nat) : Int)), (0, x)]) (r := []) rfl (v := (0, (if bSet m x = true then (1 : Int) else 0))) (c_isSet L hs hI hR hx) ?_
  refine xk_if rfl (p := 11) rfl (fun c8_1 => ?_) (fun c8_1 => ?_)
  · replace c8_1 : bSet m x = true := xb_n0 c8_1
    refine xk_load rfl (p := 14) rfl rfl ?_
    refine xk_getf rfl (p := 17) rfl (xob (ly_x L) (by decide)) (v := (2, ((272 : Nat) : Int))) (xsl2 rfl (ly_x4 L)) ?_
    refine xk_load rfl (p := 18) rfl rfl ?_
    refine xk_getf rfl (p := 21) rfl (xob (ly_x L) (by decide)) (v := (2, (((5 + 89 * 0) : Nat) : Int))) (xsl2 rfl (ly_x1 L)) ?_
    refine xk_load rfl (p := 22) rfl rfl ?_
    refine xk_push rfl (p := 23) rfl ?_
    refine xk_push rfl (p := 24) rfl ?_
    refine xk_call rfl (p := 27) rfl (by decide) rfl (Nat.le_of_ble_eq_true rfl) (Nat.le_of_ble_eq_true rfl) (xrv (ly_o L) (by decide)) (as := [(2, ((272 : Nat) : Int)), (2, (((5 + 89 * 0) : Nat) : Int)), (0, x), (0, (-1)), (0, 0)]) (r := []) rfl (c_run (x := x) (y := (-1)) (z := 0) L hI hR (by assumption) (by omega)) ?_
    rintro _ g w9 ⟨rfl, rfl, hG9, hA9⟩
    have hN9 := ac5_N hA9
    refine xk_load rfl (p := 28) rfl rfl ?_
    refine xk_getf rfl (p := 31) rfl (xob (ly_x L) (by decide)) (v := (2, ((272 : Nat) : Int))) (xsl2 rfl (ly_x4 L)) ?_
    refine xk_getf rfl (p := 34) rfl (xob (ly_o L) (by decide)) (v := (0, (exN m (-1) 0 x).1)) (xsl0 rfl (hN9.1)) ?_
    refine xk_ret rfl (rfl) ?_
    exact ⟨rfl, congrArg (fun z => some ((0, z) : xV)) (by unfold y_orders; (repeat' split) <;> first | rfl | (exfalso; omega) | (exfalso; simp_all; done)), hR.gt hI hs hG9, hG9⟩
  · replace c8_1 : ¬ (bSet m x = true) := xb_e1 c8_1
    refine xk_push rfl (p := 12) rfl ?_
    refine xk_ret rfl (rfl) ?_
    exact ⟨rfl, congrArg (fun z => some ((0, z) : xV)) (by unfold y_orders; (repeat' split) <;> first | rfl | (exfalso; omega) | (exfalso; simp_all; done)), hR, Gt.rf⟩

theorem c_could {d : Nat} {g : xG} {t m : xD} {x y z : Int} (L : xLay g) (hI : Inv m) (hR : Rep t 0 m) (hx : xr32 x) : xCall (d + 16) 89 [(2, ((2 : Nat) : Int)), (0, x), (0, y), (0, z)] g t (oQ g t m (0, y_could m x y z)) := by
  show xOk (d + 16) 89 0 [(2, ((2 : Nat) : Int)), (0, x), (0, y), (0, z)] [] g t _
  have iNn_ := iNn hI
  have hs : 0 < 3 := by decide
  have hs1 : 1 < 3 := by decide
  have hs2 : 2 < 3 := by decide
  refine xk_load rfl (p := 1) rfl rfl ?_
  refine xk_getf rfl (p := 4) rfl (xob (ly_x L) (by decide)) (v := (2, (((5 + 89 * 0) : Nat) : Int))) (xsl2 rfl (ly_x1 L)) ?_
  refine xk_load rfl (p := 5) rfl rfl ?_
  refine xk_callp rfl (p := 8) rfl (by decide) rfl (Nat.le_of_ble_eq_true rfl) (Nat.le_of_ble_eq_true rfl) (xrv (ly_st L hs) (by decide)) (as := [(2, (((5 + 89 * 0) : Nat) : Int)), (0, x)]) (r := []) rfl (v := (0, (if bSet m x = true then (1 : Int) else 0))) (c_isSet L hs hI hR hx) ?_
  refine xk_if rfl (p := 11) rfl (fun c8_1 => ?_) (fun c8_1 => ?_)
  · replace c8_1 : ¬ (bSet m x = true) := xb_e0 c8_1
    refine xk_push rfl (p := 23) rfl ?_
    refine xk_ret rfl (rfl) ?_
    exact ⟨rfl, congrArg (fun z => some ((0, z) : xV)) (by unfold y_could; (repeat' split) <;> first | rfl | (exfalso; omega) | (exfalso; simp_all; done)), hR, Gt.rf⟩
  · replace c8_1 : bSet m x = true := xb_n0 c8_1
    refine xk_load rfl (p := 12) rfl rfl ?_
    refine xk_getf rfl (p := 15) rfl (xob (ly_x L) (by decide)) (v := (2, (((5 + 89 * 0) : Nat) : Int))) (xsl2 rfl (ly_x1 L)) ?_
    refine xk_load rfl (p := 16) rfl rfl ?_
    refine xk_callp rfl (p := 19) rfl (by decide) rfl (Nat.le_of_ble_eq_true rfl) (Nat.le_of_ble_eq_true rfl) (xrv (ly_st L hs) (by decide)) (as := [(2, (((5 + 89 * 0) : Nat) : Int)), (0, y)]) (r := []) rfl (v := (0, (if 0 ≤ y ∧ y < m 292 0 then (1 : Int) else 0))) (c_isName L hs hI hR) ?_
    have iNn_ := iNn hI
    refine xk_if rfl (p := 22) rfl (fun c19_2 => ?_) (fun c19_2 => ?_)
    · replace c19_2 : 0 ≤ y ∧ y < m 292 0 := xb_n0 c19_2
      refine xk_load rfl (p := 25) rfl rfl ?_
      refine xk_callp rfl (p := 28) rfl (by decide) rfl (Nat.le_of_ble_eq_true rfl) (Nat.le_of_ble_eq_true rfl) (rfl) (as := [(0, z)]) (r := []) rfl (v := (0, (if 0 ≤ z ∧ z ≤ 999 then (1 : Int) else 0))) (c_isRevision) ?_
      refine xk_if rfl (p := 31) rfl (fun c28_3 => ?_) (fun c28_3 => ?_)
      · replace c28_3 : 0 ≤ z ∧ z ≤ 999 := xb_n0 c28_3
        refine xk_load rfl (p := 35) rfl rfl ?_
        refine xk_getf rfl (p := 38) rfl (xob (ly_x L) (by decide)) (v := (2, ((272 : Nat) : Int))) (xsl2 rfl (ly_x4 L)) ?_
        refine xk_load rfl (p := 39) rfl rfl ?_
        refine xk_getf rfl (p := 42) rfl (xob (ly_x L) (by decide)) (v := (2, (((5 + 89 * 0) : Nat) : Int))) (xsl2 rfl (ly_x1 L)) ?_
        refine xk_load rfl (p := 43) rfl rfl ?_
        refine xk_load rfl (p := 44) rfl rfl ?_
        refine xk_load rfl (p := 45) rfl rfl ?_
        refine xk_call rfl (p := 48) rfl (by decide) rfl (Nat.le_of_ble_eq_true rfl) (Nat.le_of_ble_eq_true rfl) (xrv (ly_o L) (by decide)) (as := [(2, ((272 : Nat) : Int)), (2, (((5 + 89 * 0) : Nat) : Int)), (0, x), (0, y), (0, z)]) (r := []) rfl (c_run (x := x) (y := y) (z := z) L hI hR (by assumption) (by omega)) ?_
        rintro _ g w9 ⟨rfl, rfl, hG9, hA9⟩
        have hN9 := ac5_N hA9
        refine xk_load rfl (p := 49) rfl rfl ?_
        refine xk_getf rfl (p := 52) rfl (xob (ly_x L) (by decide)) (v := (2, ((272 : Nat) : Int))) (xsl2 rfl (ly_x4 L)) ?_
        refine xk_getf rfl (p := 55) rfl (xob (ly_o L) (by decide)) (v := (0, (exN m y z x).2.1)) (xsl0 rfl (hN9.2.1)) ?_
        refine xk_ret rfl (rfl) ?_
        exact ⟨rfl, congrArg (fun z => some ((0, z) : xV)) (by unfold y_could; (repeat' split) <;> first | rfl | (exfalso; omega) | (exfalso; simp_all; done)), hR.gt hI hs hG9, hG9⟩
      · replace c28_3 : ¬ (0 ≤ z ∧ z ≤ 999) := xb_e1 c28_3
        refine xk_push rfl (p := 33) rfl ?_
        refine xk_ret rfl (rfl) ?_
        exact ⟨rfl, congrArg (fun z => some ((0, z) : xV)) (by unfold y_could; (repeat' split) <;> first | rfl | (exfalso; omega) | (exfalso; simp_all; done)), hR, Gt.rf⟩
    · replace c19_2 : ¬ (0 ≤ y ∧ y < m 292 0) := xb_e1 c19_2
      refine xk_push rfl (p := 23) rfl ?_
      refine xk_ret rfl (rfl) ?_
      exact ⟨rfl, congrArg (fun z => some ((0, z) : xV)) (by unfold y_could; (repeat' split) <;> first | rfl | (exfalso; omega) | (exfalso; simp_all; done)), hR, Gt.rf⟩

theorem c_fits {d : Nat} {g : xG} {t m : xD} {x y : Int} (L : xLay g) (hI : Inv m) (hR : Rep t 0 m) (hx : xr32 x) : xCall (d + 16) 91 [(2, ((2 : Nat) : Int)), (0, x), (0, y)] g t (oQ g t m (0, y_fits m x y)) := by
  show xOk (d + 16) 91 0 [(2, ((2 : Nat) : Int)), (0, x), (0, y)] [] g t _
  have iNn_ := iNn hI
  have hs : 0 < 3 := by decide
  have hs1 : 1 < 3 := by decide
  have hs2 : 2 < 3 := by decide
  refine xk_load rfl (p := 1) rfl rfl ?_
  refine xk_getf rfl (p := 4) rfl (xob (ly_x L) (by decide)) (v := (2, (((5 + 89 * 0) : Nat) : Int))) (xsl2 rfl (ly_x1 L)) ?_
  refine xk_load rfl (p := 5) rfl rfl ?_
  refine xk_callp rfl (p := 8) rfl (by decide) rfl (Nat.le_of_ble_eq_true rfl) (Nat.le_of_ble_eq_true rfl) (xrv (ly_st L hs) (by decide)) (as := [(2, (((5 + 89 * 0) : Nat) : Int)), (0, x)]) (r := []) rfl (v := (0, (if bSet m x = true then (1 : Int) else 0))) (c_isSet L hs hI hR hx) ?_
  refine xk_if rfl (p := 11) rfl (fun c8_1 => ?_) (fun c8_1 => ?_)
  · replace c8_1 : ¬ (bSet m x = true) := xb_e0 c8_1
    refine xk_push rfl (p := 21) rfl ?_
    refine xk_ret rfl (rfl) ?_
    exact ⟨rfl, congrArg (fun z => some ((0, z) : xV)) (by unfold y_fits; (repeat' split) <;> first | rfl | (exfalso; omega) | (exfalso; simp_all; done)), hR, Gt.rf⟩
  · replace c8_1 : bSet m x = true := xb_n0 c8_1
    refine xk_load rfl (p := 12) rfl rfl ?_
    refine xk_if rfl (p := 15) rfl (fun c12_2 => ?_) (fun c12_2 => ?_)
    · replace c12_2 : y < 0 := c12_2
      refine xk_push rfl (p := 21) rfl ?_
      refine xk_ret rfl (rfl) ?_
      exact ⟨rfl, congrArg (fun z => some ((0, z) : xV)) (by unfold y_fits; (repeat' split) <;> first | rfl | (exfalso; omega) | (exfalso; simp_all; done)), hR, Gt.rf⟩
    · replace c12_2 : ¬ (y < 0) := c12_2
      refine xk_load rfl (p := 16) rfl rfl ?_
      refine xk_push rfl (p := 17) rfl ?_
      refine xk_icmp rfl (p := 20) rfl (fun c17_3 => ?_) (fun c17_3 => ?_)
      · replace c17_3 : y ≤ 1 := c17_3
        refine xk_load rfl (p := 23) rfl rfl ?_
        refine xk_getf rfl (p := 26) rfl (xob (ly_x L) (by decide)) (v := (2, ((272 : Nat) : Int))) (xsl2 rfl (ly_x4 L)) ?_
        refine xk_load rfl (p := 27) rfl rfl ?_
        refine xk_getf rfl (p := 30) rfl (xob (ly_x L) (by decide)) (v := (2, (((5 + 89 * 0) : Nat) : Int))) (xsl2 rfl (ly_x1 L)) ?_
        refine xk_load rfl (p := 31) rfl rfl ?_
        refine xk_push rfl (p := 32) rfl ?_
        refine xk_push rfl (p := 33) rfl ?_
        refine xk_call rfl (p := 36) rfl (by decide) rfl (Nat.le_of_ble_eq_true rfl) (Nat.le_of_ble_eq_true rfl) (xrv (ly_o L) (by decide)) (as := [(2, ((272 : Nat) : Int)), (2, (((5 + 89 * 0) : Nat) : Int)), (0, x), (0, (-1)), (0, 0)]) (r := []) rfl (c_run (x := x) (y := (-1)) (z := 0) L hI hR (by assumption) (by omega)) ?_
        rintro _ g w9 ⟨rfl, rfl, hG9, hA9⟩
        have hN9 := ac5_N hA9
        refine xk_load rfl (p := 37) rfl rfl ?_
        refine xk_if rfl (p := 40) rfl (fun c37_4 => ?_) (fun c37_4 => ?_)
        · replace c37_4 : ¬ (y = 0) := c37_4
          refine xk_load rfl (p := 51) rfl rfl ?_
          refine xk_getf rfl (p := 54) rfl (xob (ly_x L) (by decide)) (v := (2, ((272 : Nat) : Int))) (xsl2 rfl (ly_x4 L)) ?_
          refine xk_getf rfl (p := 57) rfl (xob (ly_o L) (by decide)) (v := (0, (exN m (-1) 0 x).2.2.2)) (xsl0 rfl (hN9.2.2.2)) ?_
          refine xk_ret rfl (rfl) ?_
          exact ⟨rfl, congrArg (fun z => some ((0, z) : xV)) (by unfold y_fits; (repeat' split) <;> first | rfl | (exfalso; omega) | (exfalso; simp_all; done)), hR.gt hI hs hG9, hG9⟩
        · replace c37_4 : y = 0 := Decidable.not_not.mp c37_4
          refine xk_load rfl (p := 41) rfl rfl ?_
          refine xk_getf rfl (p := 44) rfl (xob (ly_x L) (by decide)) (v := (2, ((272 : Nat) : Int))) (xsl2 rfl (ly_x4 L)) ?_
          refine xk_getf rfl (p := 47) rfl (xob (ly_o L) (by decide)) (v := (0, (exN m (-1) 0 x).2.2.1)) (xsl0 rfl (hN9.2.2.1)) ?_
          refine xk_goto rfl ?_
          refine xk_ret rfl (rfl) ?_
          exact ⟨rfl, congrArg (fun z => some ((0, z) : xV)) (by unfold y_fits; (repeat' split) <;> first | rfl | (exfalso; omega) | (exfalso; simp_all; done)), hR.gt hI hs hG9, hG9⟩
      · replace c17_3 : ¬ (y ≤ 1) := c17_3
        refine xk_push rfl (p := 21) rfl ?_
        refine xk_ret rfl (rfl) ?_
        exact ⟨rfl, congrArg (fun z => some ((0, z) : xV)) (by unfold y_fits; (repeat' split) <;> first | rfl | (exfalso; omega) | (exfalso; simp_all; done)), hR, Gt.rf⟩
