/-! THE CLASS: TAPE, ITEM -/
theorem c_tbegin {d : Nat} {n z : Nat} {s : Int} {g : xG} {t : xD} (L : xLay g) (hn : n < 6) (hz : z ≤ 60) : xCall (d) 61 [(2, (((280 + 2 * n) : Nat) : Int)), (0, s), (0, ((z : Nat) : Int))] g t (fun r g1 t1 => g1 = g ∧ r = none ∧ t1 (280 + 2 * n) 1 = s ∧ t1 (280 + 2 * n) 2 = ((z : Nat) : Int) ∧ (∀ i, i < z → t1 (280 + 2 * n + 1) i = 0) ∧ ∀ b j, ¬ (280 + 2 * n ≤ b ∧ b ≤ 281 + 2 * n) → t1 b j = t b j) := by
  show xOk (d) 61 0 [(2, (((280 + 2 * n) : Nat) : Int)), (0, s), (0, ((z : Nat) : Int)), (3, 0)] [] g t _
  refine xk_load rfl (p := 1) rfl rfl ?_
  refine xk_load rfl (p := 2) rfl rfl ?_
  refine xk_putf rfl (p := 5) rfl (xob ((ly_tp L (show n < 6 by omega)).1) (by decide)) rfl (by decide) (by decide) (fun h => absurd h (by decide)) (by omega) ?_
  refine xk_load rfl (p := 6) rfl rfl ?_
  refine xk_load rfl (p := 7) rfl rfl ?_
  refine xk_putf rfl (p := 10) rfl (xob ((ly_tp L (show n < 6 by omega)).1) (by decide)) rfl (by decide) (by decide) (fun h => absurd h (by decide)) (by omega) ?_
  refine xk_push rfl (p := 11) rfl ?_
  refine xk_store rfl (p := 12) rfl (by decide) (Nat.le_of_ble_eq_true rfl) (ls' := [(2, (((280 + 2 * n) : Nat) : Int)), (0, s), (0, ((z : Nat) : Int)), (0, 0)]) rfl ?_
  have lp1 : ∀ k : Nat, k ≤ z → ∀ (u1 : xD), (u1 (280 + 2 * n) 1 = s) → (u1 (280 + 2 * n) 2 = ((z : Nat) : Int)) → (∀ i, i < k → u1 (280 + 2 * n + 1) i = 0) → (∀ b j, ¬ (280 + 2 * n ≤ b ∧ b ≤ 281 + 2 * n) → u1 b j = t b j) → xOk (d) 61 12 [(2, (((280 + 2 * n) : Nat) : Int)), (0, s), (0, ((z : Nat) : Int)), (0, ((k : Nat) : Int))] [] g u1 (fun r g1 t1 => g1 = g ∧ r = none ∧ t1 (280 + 2 * n) 1 = s ∧ t1 (280 + 2 * n) 2 = ((z : Nat) : Int) ∧ (∀ i, i < z → t1 (280 + 2 * n + 1) i = 0) ∧ ∀ b j, ¬ (280 + 2 * n ≤ b ∧ b ≤ 281 + 2 * n) → t1 b j = t b j) := by
    refine xk_up z (fun k hkk ih1  u1 h1_1 h1_2 h1_3 h1_4 => ?_)
    refine xk_load rfl (p := 13) rfl rfl ?_
    refine xk_load rfl (p := 14) rfl rfl ?_
    refine xk_icmp rfl (p := 17) rfl (fun c14_2 => ?_) (fun c14_2 => ?_)
    · replace c14_2 : ((z : Nat) : Int) ≤ ((k : Nat) : Int) := c14_2
      refine xk_ret rfl (rfl) ?_
      exact ⟨rfl, rfl, h1_1, h1_2, fun i hi => h1_3 i (by omega), h1_4⟩
    · replace c14_2 : ¬ (((z : Nat) : Int) ≤ ((k : Nat) : Int)) := c14_2
      refine xk_load rfl (p := 18) rfl rfl ?_
      refine xk_getf rfl (p := 21) rfl (xob ((ly_tp L (show n < 6 by omega)).1) (by decide)) (v := (2, ((((280 + 2 * n) + 1) : Nat) : Int))) (xsl2 rfl ((ly_tp L (show n < 6 by omega)).2.2)) ?_
      refine xk_load rfl (p := 22) rfl rfl ?_
      refine xk_push rfl (p := 23) rfl ?_
      refine xk_ast rfl (p := 24) rfl (by decide) rfl (xsk ((ly_tp L (show n < 6 by omega)).2.1)) (xsn ((ly_tp L (show n < 6 by omega)).2.1) (show k < 60 by omega)) (by omega) ?_
      refine xk_inc1 rfl (p := 27) rfl (n := k) rfl (by omega) (ls' := [(2, (((280 + 2 * n) : Nat) : Int)), (0, s), (0, ((z : Nat) : Int)), (0, ((k + 1 : Nat) : Int))]) rfl ?_
      refine xk_goto rfl ?_
      exact ih1 (by omega)  (xupd u1 ((280 + 2 * n) + 1) k 0) (by exact (xupd_ne (by omega)).trans h1_1) (by exact (xupd_ne (by omega)).trans h1_2) (by exact fun i hi => dite (i = k) (fun ci => by subst ci; exact xupd_eq) (fun ci => (xupd_ne (by omega)).trans (h1_3 i (by omega)))) (by exact fun b j hh => (xupd_ne (by omega)).trans (h1_4 b j hh))
  exact lp1 0 (by omega)  (xupd (xupd t (280 + 2 * n) 1 s) (280 + 2 * n) 2 ((z : Nat) : Int)) (by exact (xupd_ne (by omega)).trans xupd_eq) (by exact xupd_eq) (by intro i hi; omega) (by exact fun b j hh => (xupd_ne (by omega)).trans (xupd_ne (by omega)))

/-- the tape's cells, opened -/
theorem tTp_at {m : xD} {n a k : Nat} {s w : Int} : tTp m n s w a k = if a = 318 ∧ 60 * n ≤ k ∧ k < 60 * n + 60 then 0 else if a = 317 ∧ k = n then (if s < 0 then 0 else w) else if a = 316 ∧ k = n then s else m a k := by
  by_cases c : a = 318 ∧ 60 * n ≤ k ∧ k < 60 * n + 60
  · rw [if_pos c]; exact if_pos c
  · rw [if_neg c]
    exact (if_neg c).trans rfl
/-- a tape begins anew -/
theorem TP.bg {t u m : xD} {n z : Nat} {s w : Int} (h : TP t m) (hT : MT m) (hn : n < 6) (hz : z ≤ 60) (h1 : u (280 + 2 * n) 1 = s) (h2 : u (280 + 2 * n) 2 = ((z : Nat) : Int)) (h3 : ∀ i, i < z → u (280 + 2 * n + 1) i = 0) (h4 : ∀ b j, ¬ (280 + 2 * n ≤ b ∧ b ≤ 281 + 2 * n) → u b j = t b j) (hw : (if s < 0 then 0 else w) = ((z : Nat) : Int)) : TP u (tTp m n s w) := by
  intro k hk
  have e6 : tTp m n s w 316 k = if k = n then s else m 316 k := by
    rw [tTp_at, if_neg (show ¬ ((316 : Nat) = 318 ∧ 60 * n ≤ k ∧ k < 60 * n + 60) by omega), if_neg (show ¬ ((316 : Nat) = 317 ∧ k = n) by omega)]
    by_cases c : k = n
    · rw [if_pos (show (316 : Nat) = 316 ∧ k = n from ⟨rfl, c⟩), if_pos c]
    · rw [if_neg (show ¬ ((316 : Nat) = 316 ∧ k = n) by omega), if_neg c]
  have e7 : tTp m n s w 317 k = if k = n then ((z : Nat) : Int) else m 317 k := by
    rw [tTp_at, if_neg (show ¬ ((317 : Nat) = 318 ∧ 60 * n ≤ k ∧ k < 60 * n + 60) by omega), if_neg (show ¬ ((317 : Nat) = 316 ∧ k = n) by omega)]
    by_cases c : k = n
    · rw [if_pos (show (317 : Nat) = 317 ∧ k = n from ⟨rfl, c⟩), if_pos c, hw]
    · rw [if_neg (show ¬ ((317 : Nat) = 317 ∧ k = n) by omega), if_neg c]
  have e8 : ∀ j, ¬ (60 * n ≤ j ∧ j < 60 * n + 60) → tTp m n s w 318 j = m 318 j := fun j hj => by
    rw [tTp_at, if_neg (show ¬ ((318 : Nat) = 318 ∧ 60 * n ≤ j ∧ j < 60 * n + 60) by omega), if_neg (show ¬ ((318 : Nat) = 317 ∧ j = n) by omega), if_neg (show ¬ ((318 : Nat) = 316 ∧ j = n) by omega)]
  have e9 : ∀ j, (60 * n ≤ j ∧ j < 60 * n + 60) → tTp m n s w 318 j = 0 := fun j hj => by
    rw [tTp_at, if_pos (show ((318 : Nat) = 318 ∧ 60 * n ≤ j ∧ j < 60 * n + 60) from ⟨rfl, hj⟩)]
  rw [e6, e7]
  by_cases c : k = n
  · subst c
    rw [if_pos rfl, if_pos rfl]
    refine ⟨h1, h2, fun i hi => (h3 i (by omega)).trans (e9 _ (by omega)).symm⟩
  · rw [if_neg c, if_neg c]
    have p := h k hk
    have q := hT k hk
    refine ⟨(h4 _ _ (by omega)).trans p.1, (h4 _ _ (by omega)).trans p.2.1, fun i hi => ?_⟩
    refine (h4 _ _ (by omega)).trans ((p.2.2 i hi).trans (Eq.symm ?_))
    exact e8 _ (by omega)
theorem c_tape {d : Nat} {g : xG} {t m : xD} {x y z : Int} (L : xLay g) (hP : TP t m) (hT : MT m) : xCall (d + 1) 103 [(2, ((2 : Nat) : Int)), (0, x), (0, y), (0, z)] g t (tQ0 g t (y_tape m x y z)) := by
  show xOk (d + 1) 103 0 [(2, ((2 : Nat) : Int)), (0, x), (0, y), (0, z)] [] g t _
  refine xk_load rfl (p := 1) rfl rfl ?_
  refine xk_callp rfl (p := 4) rfl (by decide) rfl (Nat.le_of_ble_eq_true rfl) (Nat.le_of_ble_eq_true rfl) (rfl) (as := [(0, x)]) (r := []) rfl (v := (0, (if 0 ≤ x ∧ x ≤ 5 then (1 : Int) else 0))) (c_isTape) ?_
  refine xk_if rfl (p := 7) rfl (fun c4_1 => ?_) (fun c4_1 => ?_)
  · replace c4_1 : 0 ≤ x ∧ x ≤ 5 := xb_n0 c4_1
    refine xk_load rfl (p := 10) rfl rfl ?_
    refine xk_push rfl (p := 11) rfl ?_
    refine xk_icmp rfl (p := 14) rfl (fun c11_2 => ?_) (fun c11_2 => ?_)
    · replace c11_2 : y < (-1) := c11_2
      refine xk_push rfl (p := 21) rfl ?_
      refine xk_ret rfl (rfl) ?_
      exact tRet (show y_tape m x y z = (some (0, (-2)), m) from by unfold y_tape; (repeat' split) <;> first | (exfalso; omega) | rfl) hP Ft.rf
    · replace c11_2 : ¬ (y < (-1)) := c11_2
      refine xk_load rfl (p := 15) rfl rfl ?_
      refine xk_push rfl (p := 16) rfl ?_
      refine xk_icmp rfl (p := 19) rfl (fun c16_3 => ?_) (fun c16_3 => ?_)
      · replace c16_3 : y < 5 := c16_3
        refine xk_load rfl (p := 23) rfl rfl ?_
        refine xk_push rfl (p := 24) rfl ?_
        refine xk_icmp rfl (p := 27) rfl (fun c24_4 => ?_) (fun c24_4 => ?_)
        · replace c24_4 : ¬ (y = (-1)) := c24_4
          refine xk_load rfl (p := 41) rfl rfl ?_
          refine xk_push rfl (p := 43) rfl ?_
          refine xk_icmp rfl (p := 46) rfl (fun c43_5 => ?_) (fun c43_5 => ?_)
          · replace c43_5 : z ≤ 60 := c43_5
            refine xk_load rfl (p := 50) rfl rfl ?_
            refine xk_if rfl (p := 53) rfl (fun c50_6 => ?_) (fun c50_6 => ?_)
            · replace c50_6 : 0 ≤ z := c50_6
              refine xk_load rfl (p := 57) rfl rfl ?_
              refine xk_getf rfl (p := 60) rfl (xob (ly_x L) (by decide)) (v := (2, ((279 : Nat) : Int))) (xsl2 rfl (ly_x5 L)) ?_
              refine xk_load rfl (p := 61) rfl rfl ?_
              refine xk_aldi rfl (p := 62) rfl (show 0 ≤ x by omega) (v := (2, (((280 + 2 * (x.toNat)) : Nat) : Int))) (xal2 (ly_tt L) (by decide) (show x.toNat < 6 by omega) (ly_te L (show x.toNat < 6 by omega))) ?_
              refine xk_load rfl (p := 63) rfl rfl ?_
              refine xk_load rfl (p := 64) rfl rfl ?_
              refine xk_stk (show _ = (0, ((z.toNat : Nat) : Int)) :: [(0, y), (2, (((280 + 2 * (x.toNat)) : Nat) : Int))] from congrArg (fun z => ((0, z) : xV) :: [(0, y), (2, (((280 + 2 * (x.toNat)) : Nat) : Int))]) (Int.toNat_of_nonneg (show 0 ≤ z by omega)).symm) ?_
              refine xk_call rfl (p := 67) rfl (by decide) rfl (Nat.le_of_ble_eq_true rfl) (Nat.le_of_ble_eq_true rfl) (xrv ((ly_tp L (show x.toNat < 6 by omega)).1) (by decide)) (as := [(2, (((280 + 2 * (x.toNat)) : Nat) : Int)), (0, y), (0, ((z.toNat : Nat) : Int))]) (r := []) rfl (c_tbegin L (show x.toNat < 6 by omega) (by omega)) ?_
              rintro _ g v1 ⟨rfl, rfl, e1, e2, e3, e4⟩
              refine xk_push rfl (p := 68) rfl ?_
              refine xk_ret rfl (rfl) ?_
              exact tRet (show y_tape m x y z = (some (0, 1), tTp m x.toNat y z) from by unfold y_tape; rw [if_pos (by omega), if_pos (by omega), if_neg (by omega)]) (hP.bg hT (by omega) (by omega) (by omega) e2 e3 e4 (by split <;> omega)) (fun b j hh => e4 b j (by omega))
            · replace c50_6 : ¬ (0 ≤ z) := c50_6
              refine xk_push rfl (p := 55) rfl ?_
              refine xk_ret rfl (rfl) ?_
              exact tRet (show y_tape m x y z = (some (0, (-14)), m) from by unfold y_tape; (repeat' split) <;> first | (exfalso; omega) | rfl) hP Ft.rf
          · replace c43_5 : ¬ (z ≤ 60) := c43_5
            refine xk_push rfl (p := 48) rfl ?_
            refine xk_ret rfl (rfl) ?_
            exact tRet (show y_tape m x y z = (some (0, (-2)), m) from by unfold y_tape; (repeat' split) <;> first | (exfalso; omega) | rfl) hP Ft.rf
        · replace c24_4 : y = (-1) := Decidable.not_not.mp c24_4
          refine xk_load rfl (p := 28) rfl rfl ?_
          refine xk_getf rfl (p := 31) rfl (xob (ly_x L) (by decide)) (v := (2, ((279 : Nat) : Int))) (xsl2 rfl (ly_x5 L)) ?_
          refine xk_load rfl (p := 32) rfl rfl ?_
          refine xk_aldi rfl (p := 33) rfl (show 0 ≤ x by omega) (v := (2, (((280 + 2 * (x.toNat)) : Nat) : Int))) (xal2 (ly_tt L) (by decide) (show x.toNat < 6 by omega) (ly_te L (show x.toNat < 6 by omega))) ?_
          refine xk_push rfl (p := 34) rfl ?_
          refine xk_push rfl (p := 35) rfl ?_
          refine xk_call rfl (p := 38) rfl (by decide) rfl (Nat.le_of_ble_eq_true rfl) (Nat.le_of_ble_eq_true rfl) (xrv ((ly_tp L (show x.toNat < 6 by omega)).1) (by decide)) (as := [(2, (((280 + 2 * (x.toNat)) : Nat) : Int)), (0, (-1)), (0, ((0 : Nat) : Int))]) (r := []) rfl (c_tbegin L (show x.toNat < 6 by omega) (by omega)) ?_
          rintro _ g v1 ⟨rfl, rfl, e1, e2, e3, e4⟩
          refine xk_push rfl (p := 39) rfl ?_
          refine xk_ret rfl (rfl) ?_
          exact tRet (show y_tape m x y z = (some (0, 1), tTp m x.toNat y z) from by unfold y_tape; rw [if_pos (by omega), if_pos (by omega), if_neg (by omega)]) (hP.bg hT (by omega) (by omega) (by omega) e2 e3 e4 (by split <;> omega)) (fun b j hh => e4 b j (by omega))
      · replace c16_3 : ¬ (y < 5) := c16_3
        refine xk_push rfl (p := 21) rfl ?_
        refine xk_ret rfl (rfl) ?_
        exact tRet (show y_tape m x y z = (some (0, (-2)), m) from by unfold y_tape; (repeat' split) <;> first | (exfalso; omega) | rfl) hP Ft.rf
  · replace c4_1 : ¬ (0 ≤ x ∧ x ≤ 5) := xb_e1 c4_1
    refine xk_push rfl (p := 8) rfl ?_
    refine xk_ret rfl (rfl) ?_
    exact tRet (show y_tape m x y z = (some (0, (-1)), m) from by unfold y_tape; (repeat' split) <;> first | (exfalso; omega) | rfl) hP Ft.rf

theorem TP.it {t m : xD} {n i p : Nat} {v : Int} (h : TP t m) (hT : MT m) (hn : n < 6) (hi : i < 60) (hp : p = 60 * n + i) : TP (xupd t (280 + 2 * n + 1) i v) (xupd m 318 p v) := by
  subst hp
  intro k hk
  have a := h k hk
  have q := hT k hk
  refine ⟨(xupd_ne (by omega)).trans a.1, (xupd_ne (by omega)).trans a.2.1, fun j hj => ?_⟩
  have hj : ((j : Nat) : Int) < m 317 k := hj
  by_cases c : k = n ∧ j = i
  · rw [c.1, c.2]
    exact xupd_eq.trans xupd_eq.symm
  · exact (xupd_ne (by omega)).trans ((a.2.2 j hj).trans (Eq.symm (xupd_ne (by omega))))
theorem c_item {d : Nat} {g : xG} {t m : xD} {x y z : Int} (L : xLay g) (hP : TP t m) (hT : MT m) : xCall (d + 1) 104 [(2, ((2 : Nat) : Int)), (0, x), (0, y), (1, z)] g t (tQ0 g t (y_item m x y z)) := by
  show xOk (d + 1) 104 0 [(2, ((2 : Nat) : Int)), (0, x), (0, y), (1, z), (3, 0), (3, 0)] [] g t _
  refine xk_load rfl (p := 1) rfl rfl ?_
  refine xk_callp rfl (p := 4) rfl (by decide) rfl (Nat.le_of_ble_eq_true rfl) (Nat.le_of_ble_eq_true rfl) (rfl) (as := [(0, x)]) (r := []) rfl (v := (0, (if 0 ≤ x ∧ x ≤ 5 then (1 : Int) else 0))) (c_isTape) ?_
  refine xk_if rfl (p := 7) rfl (fun c4_1 => ?_) (fun c4_1 => ?_)
  · replace c4_1 : 0 ≤ x ∧ x ≤ 5 := xb_n0 c4_1
    refine xk_load rfl (p := 10) rfl rfl ?_
    refine xk_getf rfl (p := 13) rfl (xob (ly_x L) (by decide)) (v := (2, ((279 : Nat) : Int))) (xsl2 rfl (ly_x5 L)) ?_
    refine xk_load rfl (p := 14) rfl rfl ?_
    refine xk_aldi rfl (p := 15) rfl (show 0 ≤ x by omega) (v := (2, (((280 + 2 * (x.toNat)) : Nat) : Int))) (xal2 (ly_tt L) (by decide) (show x.toNat < 6 by omega) (ly_te L (show x.toNat < 6 by omega))) ?_
    refine xk_store rfl (p := 17) rfl (by decide) (Nat.le_of_ble_eq_true rfl) (ls' := [(2, ((2 : Nat) : Int)), (0, x), (0, y), (1, z), (3, 0), (2, (((280 + 2 * (x.toNat)) : Nat) : Int))]) rfl ?_
    refine xk_load rfl (p := 19) rfl rfl ?_
    refine xk_getf rfl (p := 22) rfl (xob ((ly_tp L (show x.toNat < 6 by omega)).1) (by decide)) (v := (0, m 316 (x.toNat))) (xsl0 rfl ((hP (x.toNat) (by omega)).1)) ?_
    have hT_ := hT (x.toNat) (by omega)
    refine xk_push rfl (p := 23) rfl ?_
    refine xk_icmp rfl (p := 26) rfl (fun c23_2 => ?_) (fun c23_2 => ?_)
    · replace c23_2 : ¬ (m 316 (x.toNat) = (-1)) := c23_2
      refine xk_load rfl (p := 30) rfl rfl ?_
      refine xk_if rfl (p := 33) rfl (fun c30_3 => ?_) (fun c30_3 => ?_)
      · replace c30_3 : y < 0 := c30_3
        refine xk_push rfl (p := 44) rfl ?_
        refine xk_ret rfl (rfl) ?_
        exact tRet (show y_item m x y z = (some (0, (-13)), m) from by unfold y_item; (repeat' split) <;> first | (exfalso; omega) | rfl) hP Ft.rf
      · replace c30_3 : ¬ (y < 0) := c30_3
        refine xk_load rfl (p := 34) rfl rfl ?_
        refine xk_load rfl (p := 36) rfl rfl ?_
        refine xk_getf rfl (p := 39) rfl (xob ((ly_tp L (show x.toNat < 6 by omega)).1) (by decide)) (v := (0, m 317 (x.toNat))) (xsl0 rfl ((hP (x.toNat) (by omega)).2.1)) ?_
        have hT_ := hT (x.toNat) (by omega)
        refine xk_icmp rfl (p := 42) rfl (fun c39_4 => ?_) (fun c39_4 => ?_)
        · replace c39_4 : y < m 317 (x.toNat) := c39_4
          refine xk_load rfl (p := 47) rfl rfl ?_
          refine xk_getf rfl (p := 50) rfl (xob ((ly_tp L (show x.toNat < 6 by omega)).1) (by decide)) (v := (2, ((((280 + 2 * (x.toNat)) + 1) : Nat) : Int))) (xsl2 rfl ((ly_tp L (show x.toNat < 6 by omega)).2.2)) ?_
          refine xk_load rfl (p := 51) rfl rfl ?_
          refine xk_load rfl (p := 53) rfl rfl ?_
          refine xk_load rfl (p := 54) rfl rfl ?_
          refine xk_callp rfl (p := 57) rfl (by decide) rfl (Nat.le_of_ble_eq_true rfl) (Nat.le_of_ble_eq_true rfl) (xrv ((ly_tp L (show x.toNat < 6 by omega)).1) (by decide)) (as := [(2, (((280 + 2 * (x.toNat)) : Nat) : Int)), (1, z)]) (r := [(0, y), (2, ((((280 + 2 * (x.toNat)) + 1) : Nat) : Int))]) rfl (v := (1, sKept (m 316 x.toNat) z)) (c_narrowed L (show x.toNat < 6 by omega) hP hT (by omega)) ?_
          refine xk_asti rfl (p := 58) rfl (show 0 ≤ y by omega) (by decide) rfl (xsk ((ly_tp L (show x.toNat < 6 by omega)).2.1)) (xsn ((ly_tp L (show x.toNat < 6 by omega)).2.1) (show y.toNat < 60 by omega)) (by omega) ?_
          refine xk_push rfl (p := 59) rfl ?_
          refine xk_ret rfl (rfl) ?_
          exact tRet (show y_item m x y z = (some (0, 1), xupd m 318 ((60 * x) + y).toNat (sKept (m 316 x.toNat) z)) from by unfold y_item; (repeat' split) <;> first | (exfalso; omega) | rfl) (hP.it hT (by omega) (by omega) (by omega)) (fun b j hh => xupd_ne (by omega))
        · replace c39_4 : ¬ (y < m 317 (x.toNat)) := c39_4
          refine xk_push rfl (p := 44) rfl ?_
          refine xk_ret rfl (rfl) ?_
          exact tRet (show y_item m x y z = (some (0, (-13)), m) from by unfold y_item; (repeat' split) <;> first | (exfalso; omega) | rfl) hP Ft.rf
    · replace c23_2 : m 316 (x.toNat) = (-1) := Decidable.not_not.mp c23_2
      refine xk_push rfl (p := 28) rfl ?_
      refine xk_ret rfl (rfl) ?_
      exact tRet (show y_item m x y z = (some (0, (-11)), m) from by unfold y_item; (repeat' split) <;> first | (exfalso; omega) | rfl) hP Ft.rf
  · replace c4_1 : ¬ (0 ≤ x ∧ x ≤ 5) := xb_e1 c4_1
    refine xk_push rfl (p := 8) rfl ?_
    refine xk_ret rfl (rfl) ?_
    exact tRet (show y_item m x y z = (some (0, (-1)), m) from by unfold y_item; (repeat' split) <;> first | (exfalso; omega) | rfl) hP Ft.rf
