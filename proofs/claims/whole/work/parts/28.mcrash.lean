/-! THE MODEL: CRASHES, REPACK, DEAL, EXPIRE, TAPES -/
def tKl (m : xD) (K : Nat) : xD := fun a k => if a = 300 ∧ k < K then 0 else m a k
theorem tKl_0 {m : xD} : tKl m 0 = m := by
  funext a k
  exact if_neg (by omega)
theorem Mo.kl {t m : xD} {k : Nat} (h : Mo t (tKl m k)) : Mo (xupd t 300 k 0) (tKl m (k + 1)) := fun a j ha => by
  have := h a j ha
  unfold xupd tKl at *
  by_cases c : a = 300 ∧ j = k
  · rw [if_pos c, if_pos (by omega)]
  · rw [if_neg c, this]
    by_cases c2 : a = 300 ∧ j < k
    · rw [if_pos c2, if_pos (by omega)]
    · rw [if_neg c2, if_neg (by omega)]
def tZw (m : xD) (K : Nat) : xD := fun a k => if a = 304 ∧ k < K then 0 else m a k
theorem tZw_0 {m : xD} : tZw m 0 = m := by
  funext a k
  exact if_neg (by omega)
theorem Mo.zw {t m : xD} {k : Nat} (h : Mo t (tZw m k)) : Mo (xupd t 304 k 0) (tZw m (k + 1)) := fun a j ha => by
  have := h a j ha
  unfold xupd tZw at *
  by_cases c : a = 304 ∧ j = k
  · rw [if_pos c, if_pos (by omega)]
  · rw [if_neg c, this]
    by_cases c2 : a = 304 ∧ j < k
    · rw [if_pos c2, if_pos (by omega)]
    · rw [if_neg c2, if_neg (by omega)]
def tRs (m : xD) : xD := tZw (xupd (xupd m 292 14 1) 292 15 (-1)) 12
theorem Inv.zw {m : xD} (h : Inv m) {K : Nat} : Inv (tZw (xupd (xupd m 292 14 1) 292 15 (-1)) K) :=
  ⟨h.1, h.2.1, h.2.2.1, h.2.2.2.1, h.2.2.2.2.1, h.2.2.2.2.2.1, h.2.2.2.2.2.2.1, h.2.2.2.2.2.2.2.1, .inr ⟨rfl, Int.le_refl _, by have := h.1; show -1 < m 292 0; omega⟩, h.2.2.2.2.2.2.2.2.2⟩
def sStd (m : xD) : Nat := xcnt (fun i => decide (¬ sSto m i = 0)) (nN m)
def y_repack (m : xD) : Option xV × xD := if m 292 14 = 1 then (some (0, -3), m) else (some (0, ((sStd m : Nat) : Int)), tRs m)
def sDls (m : xD) : Nat := xcnt (fun d => decide (0 < m 300 d)) 4
def y_crash (m : xD) : Option xV × xD := (some (0, ((sDls m : Nat) : Int)), tCr m)
theorem n_crashes {d : Nat} {g : xG} {t m : xD} (L : xLay g) (hM : Mo t m) (hI : Inv m) : xCall (d + 6) 162 [(2, ((292 : Nat) : Int))] g t (yQ g t (y_crash m)) := by
  show xOk (d + 6) 162 0 [(2, ((292 : Nat) : Int)), (3, 0), (3, 0), (3, 0)] [] g t _
  refine xk_load rfl (p := 1) rfl rfl ?_
  refine xk_callp rfl (p := 4) rfl (by decide) rfl (Nat.le_of_ble_eq_true rfl) (Nat.le_of_ble_eq_true rfl) (xrv (ly_m L) (by decide)) (as := [(2, ((292 : Nat) : Int))]) (r := []) rfl (v := (0, ((xcnt (fun d => decide (0 < m 300 d)) 4 : Nat) : Int))) (n_deals L hM hI) ?_
  refine xk_store rfl (p := 5) rfl (by decide) (Nat.le_of_ble_eq_true rfl) (ls' := [(2, ((292 : Nat) : Int)), (0, ((xcnt (fun d => decide (0 < m 300 d)) 4 : Nat) : Int)), (3, 0), (3, 0)]) rfl ?_
  refine xk_load rfl (p := 6) rfl rfl ?_
  refine xk_callp rfl (p := 9) rfl (by decide) rfl (Nat.le_of_ble_eq_true rfl) (Nat.le_of_ble_eq_true rfl) (xrv (ly_m L) (by decide)) (as := [(2, ((292 : Nat) : Int))]) (r := []) rfl (v := (0, sCom m)) (n_committing L hM hI) ?_
  have sCom_ := sCom_rng (m := m)
  refine xk_store rfl (p := 10) rfl (by decide) (Nat.le_of_ble_eq_true rfl) (ls' := [(2, ((292 : Nat) : Int)), (0, ((xcnt (fun d => decide (0 < m 300 d)) 4 : Nat) : Int)), (0, sCom m), (3, 0)]) rfl ?_
  refine xk_load rfl (p := 11) rfl rfl ?_
  refine xk_push rfl (p := 12) rfl ?_
  refine xk_icmp rfl (p := 15) rfl (fun c12_1 => ?_) (fun c12_1 => ?_)
  · replace c12_1 : sCom m = (-1) := c12_1
    refine xk_push rfl (p := 31) rfl ?_
    refine xk_store rfl (p := 32) rfl (by decide) (Nat.le_of_ble_eq_true rfl) (ls' := [(2, ((292 : Nat) : Int)), (0, ((xcnt (fun d => decide (0 < m 300 d)) 4 : Nat) : Int)), (0, sCom m), (0, 0)]) rfl ?_
    have lp2 : ∀ k : Nat, k ≤ 4 → ∀ (t1 : xD), (Mo t1 (tKl m k)) → (Md t t1) → xOk (d + 6) 162 32 [(2, ((292 : Nat) : Int)), (0, ((xcnt (fun d => decide (0 < m 300 d)) 4 : Nat) : Int)), (0, sCom m), (0, ((k : Nat) : Int))] [] g t1 (yQ g t (y_crash m)) := by
      refine xk_up 4 (fun k hkk ih2  t1 hi1 hi2 => ?_)
      refine xk_load rfl (p := 33) rfl rfl ?_
      refine xk_push rfl (p := 34) rfl ?_
      refine xk_icmp rfl (p := 37) rfl (fun c34_3 => ?_) (fun c34_3 => ?_)
      · replace c34_3 : 4 ≤ ((k : Nat) : Int) := c34_3
        refine xk_load rfl (p := 51) rfl rfl ?_
        refine xk_push rfl (p := 52) rfl ?_
        refine xk_putf rfl (p := 55) rfl (xob (ly_m L) (by decide)) rfl (by decide) (by decide) (fun h => absurd h (by decide)) (by omega) ?_
        refine xk_load rfl (p := 56) rfl rfl ?_
        refine xk_ret rfl (rfl) ?_
        rw [show k = 4 by omega] at hi1
        exact yRet (congrArg (fun z => (some ((0, ((sDls m : Nat) : Int)) : xV), xupd (tKil z) 292 14 0)) ((if_pos c12_1))) (hi1.up) (hi2.up (by decide))
      · replace c34_3 : ¬ (4 ≤ ((k : Nat) : Int)) := c34_3
        refine xk_load rfl (p := 38) rfl rfl ?_
        refine xk_getf rfl (p := 41) rfl (xob (ly_m L) (by decide)) (v := (2, ((300 : Nat) : Int))) (xsl2 rfl (ly_mp9 L)) ?_
        refine xk_load rfl (p := 42) rfl rfl ?_
        refine xk_push rfl (p := 43) rfl ?_
        refine xk_ast rfl (p := 44) rfl (by decide) rfl (xsk (ly_ms9 L)) (xsn (ly_ms9 L) (show k < 4 by omega)) (by omega) ?_
        refine xk_inc1 rfl (p := 47) rfl (n := k) rfl (by omega) (ls' := [(2, ((292 : Nat) : Int)), (0, ((xcnt (fun d => decide (0 < m 300 d)) 4 : Nat) : Int)), (0, sCom m), (0, ((k + 1 : Nat) : Int))]) rfl ?_
        refine xk_goto rfl ?_
        exact ih2 (by omega)  (xupd t1 300 k 0) (by exact hi1.kl) (by exact hi2.up (by decide))
    exact lp2 0 (by omega)  t (by rw [tKl_0]; exact hM) (by exact Md.rf)
  · replace c12_1 : ¬ (sCom m = (-1)) := c12_1
    refine xk_load rfl (p := 16) rfl rfl ?_
    refine xk_getf rfl (p := 19) rfl (xob (ly_m L) (by decide)) (v := (0, m 292 13)) (xsl0 rfl (hM 292 13 (by decide))) ?_
    refine xk_if rfl (p := 22) rfl (fun c19_4 => ?_) (fun c19_4 => ?_)
    · replace c19_4 : m 292 13 ≤ 0 := c19_4
      refine xk_push rfl (p := 31) rfl ?_
      refine xk_store rfl (p := 32) rfl (by decide) (Nat.le_of_ble_eq_true rfl) (ls' := [(2, ((292 : Nat) : Int)), (0, ((xcnt (fun d => decide (0 < m 300 d)) 4 : Nat) : Int)), (0, sCom m), (0, 0)]) rfl ?_
      have lp5 : ∀ k : Nat, k ≤ 4 → ∀ (t1 : xD), (Mo t1 (tKl m k)) → (Md t t1) → xOk (d + 6) 162 32 [(2, ((292 : Nat) : Int)), (0, ((xcnt (fun d => decide (0 < m 300 d)) 4 : Nat) : Int)), (0, sCom m), (0, ((k : Nat) : Int))] [] g t1 (yQ g t (y_crash m)) := by
        refine xk_up 4 (fun k hkk ih5  t1 hi1 hi2 => ?_)
        refine xk_load rfl (p := 33) rfl rfl ?_
        refine xk_push rfl (p := 34) rfl ?_
        refine xk_icmp rfl (p := 37) rfl (fun c34_6 => ?_) (fun c34_6 => ?_)
        · replace c34_6 : 4 ≤ ((k : Nat) : Int) := c34_6
          refine xk_load rfl (p := 51) rfl rfl ?_
          refine xk_push rfl (p := 52) rfl ?_
          refine xk_putf rfl (p := 55) rfl (xob (ly_m L) (by decide)) rfl (by decide) (by decide) (fun h => absurd h (by decide)) (by omega) ?_
          refine xk_load rfl (p := 56) rfl rfl ?_
          refine xk_ret rfl (rfl) ?_
          rw [show k = 4 by omega] at hi1
          exact yRet (congrArg (fun z => (some ((0, ((sDls m : Nat) : Int)) : xV), xupd (tKil z) 292 14 0)) ((if_neg c12_1).trans ((if_pos c19_4)))) (hi1.up) (hi2.up (by decide))
        · replace c34_6 : ¬ (4 ≤ ((k : Nat) : Int)) := c34_6
          refine xk_load rfl (p := 38) rfl rfl ?_
          refine xk_getf rfl (p := 41) rfl (xob (ly_m L) (by decide)) (v := (2, ((300 : Nat) : Int))) (xsl2 rfl (ly_mp9 L)) ?_
          refine xk_load rfl (p := 42) rfl rfl ?_
          refine xk_push rfl (p := 43) rfl ?_
          refine xk_ast rfl (p := 44) rfl (by decide) rfl (xsk (ly_ms9 L)) (xsn (ly_ms9 L) (show k < 4 by omega)) (by omega) ?_
          refine xk_inc1 rfl (p := 47) rfl (n := k) rfl (by omega) (ls' := [(2, ((292 : Nat) : Int)), (0, ((xcnt (fun d => decide (0 < m 300 d)) 4 : Nat) : Int)), (0, sCom m), (0, ((k + 1 : Nat) : Int))]) rfl ?_
          refine xk_goto rfl ?_
          exact ih5 (by omega)  (xupd t1 300 k 0) (by exact hi1.kl) (by exact hi2.up (by decide))
      exact lp5 0 (by omega)  t (by rw [tKl_0]; exact hM) (by exact Md.rf)
    · replace c19_4 : ¬ (m 292 13 ≤ 0) := c19_4
      refine xk_load rfl (p := 23) rfl rfl ?_
      refine xk_push rfl (p := 24) rfl ?_
      refine xk_push rfl (p := 26) rfl ?_
      refine xk_call rfl (p := 29) rfl (by decide) rfl (Nat.le_of_ble_eq_true rfl) (Nat.le_of_ble_eq_true rfl) (xrv (ly_m L) (by decide)) (as := [(2, ((292 : Nat) : Int)), (0, 0), (0, 9)]) (r := []) rfl (n_steps L hM hI (by decide) (by decide)) ?_
      rintro _ g t2 ⟨rfl, rfl, hM2, hD2⟩
      refine xk_pop rfl (p := 30) rfl (show ¬ (0 : Nat) = 1 by decide) ?_
      refine xk_push rfl (p := 31) rfl ?_
      refine xk_store rfl (p := 32) rfl (by decide) (Nat.le_of_ble_eq_true rfl) (ls' := [(2, ((292 : Nat) : Int)), (0, ((xcnt (fun d => decide (0 < m 300 d)) 4 : Nat) : Int)), (0, sCom m), (0, 0)]) rfl ?_
      have lp7 : ∀ k : Nat, k ≤ 4 → ∀ (t1 : xD), (Mo t1 (tKl ((tSt 0 9 m).2) k)) → (Md t t1) → xOk (d + 6) 162 32 [(2, ((292 : Nat) : Int)), (0, ((xcnt (fun d => decide (0 < m 300 d)) 4 : Nat) : Int)), (0, sCom m), (0, ((k : Nat) : Int))] [] g t1 (yQ g t (y_crash m)) := by
        refine xk_up 4 (fun k hkk ih7  t1 hi1 hi2 => ?_)
        refine xk_load rfl (p := 33) rfl rfl ?_
        refine xk_push rfl (p := 34) rfl ?_
        refine xk_icmp rfl (p := 37) rfl (fun c34_8 => ?_) (fun c34_8 => ?_)
        · replace c34_8 : 4 ≤ ((k : Nat) : Int) := c34_8
          refine xk_load rfl (p := 51) rfl rfl ?_
          refine xk_push rfl (p := 52) rfl ?_
          refine xk_putf rfl (p := 55) rfl (xob (ly_m L) (by decide)) rfl (by decide) (by decide) (fun h => absurd h (by decide)) (by omega) ?_
          refine xk_load rfl (p := 56) rfl rfl ?_
          refine xk_ret rfl (rfl) ?_
          rw [show k = 4 by omega] at hi1
          exact yRet (congrArg (fun z => (some ((0, ((sDls m : Nat) : Int)) : xV), xupd (tKil z) 292 14 0)) ((if_neg c12_1).trans ((if_neg c19_4)))) (hi1.up) (hi2.up (by decide))
        · replace c34_8 : ¬ (4 ≤ ((k : Nat) : Int)) := c34_8
          refine xk_load rfl (p := 38) rfl rfl ?_
          refine xk_getf rfl (p := 41) rfl (xob (ly_m L) (by decide)) (v := (2, ((300 : Nat) : Int))) (xsl2 rfl (ly_mp9 L)) ?_
          refine xk_load rfl (p := 42) rfl rfl ?_
          refine xk_push rfl (p := 43) rfl ?_
          refine xk_ast rfl (p := 44) rfl (by decide) rfl (xsk (ly_ms9 L)) (xsn (ly_ms9 L) (show k < 4 by omega)) (by omega) ?_
          refine xk_inc1 rfl (p := 47) rfl (n := k) rfl (by omega) (ls' := [(2, ((292 : Nat) : Int)), (0, ((xcnt (fun d => decide (0 < m 300 d)) 4 : Nat) : Int)), (0, sCom m), (0, ((k + 1 : Nat) : Int))]) rfl ?_
          refine xk_goto rfl ?_
          exact ih7 (by omega)  (xupd t1 300 k 0) (by exact hi1.kl) (by exact hi2.up (by decide))
      exact lp7 0 (by omega)  t2 (by rw [tKl_0]; exact hM2) (by exact hD2)

theorem n_crash {d : Nat} {g : xG} {t m : xD} (L : xLay g) (hM : Mo t m) (hI : Inv m) : xCall (d + 7) 163 [(2, ((292 : Nat) : Int))] g t (yQ g t (y_crash m)) := by
  show xOk (d + 7) 163 0 [(2, ((292 : Nat) : Int))] [] g t _
  refine xk_load rfl (p := 1) rfl rfl ?_
  refine xk_call rfl (p := 4) rfl (by decide) rfl (Nat.le_of_ble_eq_true rfl) (Nat.le_of_ble_eq_true rfl) (xrv (ly_m L) (by decide)) (as := [(2, ((292 : Nat) : Int))]) (r := []) rfl (n_crashes L hM hI) ?_
  rintro _ g t3 ⟨rfl, rfl, hM3, hD3⟩
  refine xk_ret rfl (rfl) ?_
  exact yRet rfl hM3 hD3

theorem n_repack {d : Nat} {g : xG} {t m : xD} (L : xLay g) (hM : Mo t m) (hI : Inv m) : xCall (d + 1) 157 [(2, ((292 : Nat) : Int))] g t (yQ g t (y_repack m)) := by
  show xOk (d + 1) 157 0 [(2, ((292 : Nat) : Int)), (3, 0), (3, 0)] [] g t _
  have iNn_ := iNn hI
  refine xk_load rfl (p := 1) rfl rfl ?_
  refine xk_getf rfl (p := 4) rfl (xob (ly_m L) (by decide)) (v := (0, m 292 14)) (xsl0 rfl (hM 292 14 (by decide))) ?_
  have iP_ := iP hI
  refine xk_push rfl (p := 5) rfl ?_
  refine xk_icmp rfl (p := 8) rfl (fun c5_1 => ?_) (fun c5_1 => ?_)
  · replace c5_1 : ¬ (m 292 14 = 1) := c5_1
    refine xk_load rfl (p := 12) rfl rfl ?_
    refine xk_push rfl (p := 13) rfl ?_
    refine xk_putf rfl (p := 16) rfl (xob (ly_m L) (by decide)) rfl (by decide) (by decide) (fun h => absurd h (by decide)) (by omega) ?_
    refine xk_load rfl (p := 17) rfl rfl ?_
    refine xk_push rfl (p := 18) rfl ?_
    refine xk_putf rfl (p := 21) rfl (xob (ly_m L) (by decide)) rfl (by decide) (by decide) (fun h => absurd h (by decide)) (by omega) ?_
    refine xk_push rfl (p := 22) rfl ?_
    refine xk_store rfl (p := 23) rfl (by decide) (Nat.le_of_ble_eq_true rfl) (ls' := [(2, ((292 : Nat) : Int)), (0, 0), (3, 0)]) rfl ?_
    refine xk_push rfl (p := 24) rfl ?_
    refine xk_store rfl (p := 25) rfl (by decide) (Nat.le_of_ble_eq_true rfl) (ls' := [(2, ((292 : Nat) : Int)), (0, 0), (0, 0)]) rfl ?_
    have lp2 : ∀ k : Nat, k ≤ 12 → ∀ (t1 : xD), (Mo t1 (tZw (xupd (xupd m 292 14 1) 292 15 (-1)) k)) → (Md t t1) → xOk (d + 1) 157 25 [(2, ((292 : Nat) : Int)), (0, 0), (0, ((k : Nat) : Int))] [] g t1 (yQ g t (y_repack m)) := by
      refine xk_up 12 (fun k hkk ih2  t1 hi1 hi2 => ?_)
      refine xk_load rfl (p := 26) rfl rfl ?_
      refine xk_push rfl (p := 28) rfl ?_
      refine xk_icmp rfl (p := 31) rfl (fun c28_3 => ?_) (fun c28_3 => ?_)
      · replace c28_3 : 12 ≤ ((k : Nat) : Int) := c28_3
        refine xk_push rfl (p := 45) rfl ?_
        refine xk_store rfl (p := 46) rfl (by decide) (Nat.le_of_ble_eq_true rfl) (ls' := [(2, ((292 : Nat) : Int)), (0, 0), (0, 0)]) rfl ?_
        have lp4 : ∀ j : Nat, j ≤ nN m → ∀ (z : Nat), (z = xcnt (fun i => decide (¬ sSto m i = 0)) j) → (z ≤ j) → xOk (d + 1) 157 46 [(2, ((292 : Nat) : Int)), (0, ((z : Nat) : Int)), (0, ((j : Nat) : Int))] [] g t1 (yQ g t (y_repack m)) := by
          refine xk_up (nN m) (fun j hkj ih4 z hz1 hz2 => ?_)
          refine xk_load rfl (p := 47) rfl rfl ?_
          refine xk_load rfl (p := 48) rfl rfl ?_
          refine xk_getf rfl (p := 51) rfl (xob (ly_m L) (by decide)) (v := (0, ((nN m : Nat) : Int))) (xsl0 rfl ((hi1 292 0 (by decide)).trans (iNn hI).1)) ?_
          refine xk_icmp rfl (p := 54) rfl (fun c51_5 => ?_) (fun c51_5 => ?_)
          · replace c51_5 : ((nN m : Nat) : Int) ≤ ((j : Nat) : Int) := c51_5
            refine xk_load rfl (p := 72) rfl rfl ?_
            refine xk_ret rfl (rfl) ?_
            rw [show k = 12 by omega] at hi1
            exact yRet ((if_neg (by assumption)).trans (by rw [hz1, show j = nN m by omega]; rfl)) hi1 hi2
          · replace c51_5 : ¬ (((nN m : Nat) : Int) ≤ ((j : Nat) : Int)) := c51_5
            refine xk_load rfl (p := 55) rfl rfl ?_
            refine xk_load rfl (p := 56) rfl rfl ?_
            refine xk_callp rfl (p := 59) rfl (by decide) rfl (Nat.le_of_ble_eq_true rfl) (Nat.le_of_ble_eq_true rfl) (xrv (ly_m L) (by decide)) (as := [(2, ((292 : Nat) : Int)), (0, ((j : Nat) : Int))]) (r := []) rfl (v := (0, sSto m j)) (xCall_eq (n_stored L hi1 hI.zw (show j < 12 by omega)) rfl) ?_
            refine xk_if rfl (p := 62) rfl (fun c59_6 => ?_) (fun c59_6 => ?_)
            · replace c59_6 : sSto m j = 0 := c59_6
              refine xk_inc1 rfl (p := 68) rfl (n := j) rfl (by omega) (ls' := [(2, ((292 : Nat) : Int)), (0, ((z : Nat) : Int)), (0, ((j + 1 : Nat) : Int))]) rfl ?_
              refine xk_goto rfl ?_
              exact ih4 (by omega) z (by first | exact xcnt_in hz1 (decide_eq_true (by omega)) | exact xcnt_out hz1 (fun h => by have h := of_decide_eq_true h; omega)) (by omega)
            · replace c59_6 : ¬ (sSto m j = 0) := c59_6
              refine xk_inc1 rfl (p := 65) rfl (n := z) rfl (by omega) (ls' := [(2, ((292 : Nat) : Int)), (0, ((z + 1 : Nat) : Int)), (0, ((j : Nat) : Int))]) rfl ?_
              refine xk_inc1 rfl (p := 68) rfl (n := j) rfl (by omega) (ls' := [(2, ((292 : Nat) : Int)), (0, ((z + 1 : Nat) : Int)), (0, ((j + 1 : Nat) : Int))]) rfl ?_
              refine xk_goto rfl ?_
              exact ih4 (by omega) (z + 1) (by first | exact xcnt_in hz1 (decide_eq_true (by omega)) | exact xcnt_out hz1 (fun h => by have h := of_decide_eq_true h; omega)) (by omega)
        exact lp4 0 (by omega) 0 (by rfl) (by omega)
      · replace c28_3 : ¬ (12 ≤ ((k : Nat) : Int)) := c28_3
        refine xk_load rfl (p := 32) rfl rfl ?_
        refine xk_getf rfl (p := 35) rfl (xob (ly_m L) (by decide)) (v := (2, ((304 : Nat) : Int))) (xsl2 rfl (ly_mp16 L)) ?_
        refine xk_load rfl (p := 36) rfl rfl ?_
        refine xk_push rfl (p := 37) rfl ?_
        refine xk_ast rfl (p := 38) rfl (by decide) rfl (xsk (ly_ms16 L)) (xsn (ly_ms16 L) (show k < 12 by omega)) (by omega) ?_
        refine xk_inc1 rfl (p := 41) rfl (n := k) rfl (by omega) (ls' := [(2, ((292 : Nat) : Int)), (0, 0), (0, ((k + 1 : Nat) : Int))]) rfl ?_
        refine xk_goto rfl ?_
        exact ih2 (by omega)  (xupd t1 304 k 0) (by exact hi1.zw) (by exact hi2.up (by decide))
    exact lp2 0 (by omega)  (xupd (xupd t 292 14 1) 292 15 (-1)) (by rw [tZw_0]; exact hM.up.up) (by exact (Md.rf.up (by decide)).up (by decide))
  · replace c5_1 : m 292 14 = 1 := Decidable.not_not.mp c5_1
    refine xk_push rfl (p := 10) rfl ?_
    refine xk_ret rfl (rfl) ?_
    exact yRet (if_pos (by assumption)) hM Md.rf

def sFre (m : xD) : Nat := xfst (fun i => decide (m 300 i ≤ 0)) 4
def y_deal (m : xD) (x : Int) : Option xV × xD := if 0 ≤ x ∧ x ≤ 3 then (if sFre m = 4 then (some (0, -4), m) else (some (0, ((sFre m : Nat) : Int)), xupd (xupd (xupd m 300 (sFre m) (x + 1)) 301 (sFre m) 0) 302 (sFre m) 0)) else (some (0, -1), m)
theorem n_deal {d : Nat} {g : xG} {t m : xD} {x : Int} (L : xLay g) (hM : Mo t m) (hI : Inv m) : xCall (d + 1) 142 [(2, ((292 : Nat) : Int)), (0, x)] g t (yQ g t (y_deal m x)) := by
  show xOk (d + 1) 142 0 [(2, ((292 : Nat) : Int)), (0, x), (3, 0)] [] g t _
  refine xk_load rfl (p := 1) rfl rfl ?_
  refine xk_push rfl (p := 2) rfl ?_
  refine xk_push rfl (p := 3) rfl ?_
  refine xk_callp rfl (p := 6) rfl (by decide) rfl (Nat.le_of_ble_eq_true rfl) (Nat.le_of_ble_eq_true rfl) (rfl) (as := [(0, x), (0, 0), (0, 3)]) (r := []) rfl (v := (0, (if 0 ≤ x ∧ x ≤ 3 then (1 : Int) else 0))) (n_within) ?_
  refine xk_if rfl (p := 9) rfl (fun c6_1 => ?_) (fun c6_1 => ?_)
  · replace c6_1 : 0 ≤ x ∧ x ≤ 3 := xb_n0 c6_1
    refine xk_push rfl (p := 12) rfl ?_
    refine xk_store rfl (p := 13) rfl (by decide) (Nat.le_of_ble_eq_true rfl) (ls' := [(2, ((292 : Nat) : Int)), (0, x), (0, 0)]) rfl ?_
    have lp2 : ∀ k : Nat, k ≤ 4 → (∀ i, i < k → ¬ m 300 i ≤ 0) → xOk (d + 1) 142 13 [(2, ((292 : Nat) : Int)), (0, x), (0, ((k : Nat) : Int))] [] g t (yQ g t (y_deal m x)) := by
      refine xk_up 4 (fun k hkk ih2  hi1 => ?_)
      refine xk_load rfl (p := 14) rfl rfl ?_
      refine xk_push rfl (p := 15) rfl ?_
      refine xk_icmp rfl (p := 18) rfl (fun c15_3 => ?_) (fun c15_3 => ?_)
      · replace c15_3 : 4 ≤ ((k : Nat) : Int) := c15_3
        refine xk_load rfl (p := 34) rfl rfl ?_
        refine xk_push rfl (p := 35) rfl ?_
        refine xk_icmp rfl (p := 38) rfl (fun c35_4 => ?_) (fun c35_4 => ?_)
        · replace c35_4 : ¬ (((k : Nat) : Int) = 4) := c35_4
          refine xk_load rfl (p := 42) rfl rfl ?_
          refine xk_getf rfl (p := 45) rfl (xob (ly_m L) (by decide)) (v := (2, ((300 : Nat) : Int))) (xsl2 rfl (ly_mp9 L)) ?_
          refine xk_load rfl (p := 46) rfl rfl ?_
          refine xk_load rfl (p := 47) rfl rfl ?_
          refine xk_push rfl (p := 48) rfl ?_
          refine xk_bin rfl (p := 49) rfl (z := (x + 1)) (congrArg some (xadd_r (by omega) (by omega))) ?_
          refine xk_ast rfl (p := 50) rfl (by decide) rfl (xsk (ly_ms9 L)) (xsn (ly_ms9 L) (show k < 4 by omega)) (by omega) ?_
          refine xk_load rfl (p := 51) rfl rfl ?_
          refine xk_getf rfl (p := 54) rfl (xob (ly_m L) (by decide)) (v := (2, ((301 : Nat) : Int))) (xsl2 rfl (ly_mp10 L)) ?_
          refine xk_load rfl (p := 55) rfl rfl ?_
          refine xk_push rfl (p := 56) rfl ?_
          refine xk_ast rfl (p := 57) rfl (by decide) rfl (xsk (ly_ms10 L)) (xsn (ly_ms10 L) (show k < 4 by omega)) (by omega) ?_
          refine xk_load rfl (p := 58) rfl rfl ?_
          refine xk_getf rfl (p := 61) rfl (xob (ly_m L) (by decide)) (v := (2, ((302 : Nat) : Int))) (xsl2 rfl (ly_mp11 L)) ?_
          refine xk_load rfl (p := 62) rfl rfl ?_
          refine xk_push rfl (p := 63) rfl ?_
          refine xk_ast rfl (p := 64) rfl (by decide) rfl (xsk (ly_ms11 L)) (xsn (ly_ms11 L) (show k < 4 by omega)) (by omega) ?_
          refine xk_load rfl (p := 65) rfl rfl ?_
          refine xk_ret rfl (rfl) ?_
          have e : sFre m = k := xfst_eq (by omega) (fun i hi => decide_eq_false (hi1 i hi)) (fun _ => decide_eq_true (by omega))
          exact yRet ((if_pos (by assumption)).trans (by rw [e]; exact if_neg (by omega))) (((hM.up).up).up) ((((Md.rf).up (by decide)).up (by decide)).up (by decide))
        · replace c35_4 : ((k : Nat) : Int) = 4 := Decidable.not_not.mp c35_4
          refine xk_push rfl (p := 40) rfl ?_
          refine xk_ret rfl (rfl) ?_
          have e : sFre m = k := xfst_eq (by omega) (fun i hi => decide_eq_false (hi1 i hi)) (fun _ => decide_eq_true (by omega))
          exact yRet ((if_pos (by assumption)).trans (by rw [e]; exact if_pos (by omega))) (hM) (Md.rf)
      · replace c15_3 : ¬ (4 ≤ ((k : Nat) : Int)) := c15_3
        refine xk_load rfl (p := 19) rfl rfl ?_
        refine xk_getf rfl (p := 22) rfl (xob (ly_m L) (by decide)) (v := (2, ((300 : Nat) : Int))) (xsl2 rfl (ly_mp9 L)) ?_
        refine xk_load rfl (p := 23) rfl rfl ?_
        refine xk_ald rfl (p := 24) rfl (v := (0, m 300 k)) ((xal0 (ly_ms9 L) (show k < 4 by omega)).trans (congrArg (fun z => some (0, z)) (hM 300 k (by decide)))) ?_
        have iD_ := iD hI (show k < 4 by omega)
        refine xk_if rfl (p := 27) rfl (fun c24_5 => ?_) (fun c24_5 => ?_)
        · replace c24_5 : m 300 k ≤ 0 := c24_5
          refine xk_load rfl (p := 34) rfl rfl ?_
          refine xk_push rfl (p := 35) rfl ?_
          refine xk_icmp rfl (p := 38) rfl (fun c35_6 => ?_) (fun c35_6 => ?_)
          · replace c35_6 : ¬ (((k : Nat) : Int) = 4) := c35_6
            refine xk_load rfl (p := 42) rfl rfl ?_
            refine xk_getf rfl (p := 45) rfl (xob (ly_m L) (by decide)) (v := (2, ((300 : Nat) : Int))) (xsl2 rfl (ly_mp9 L)) ?_
            refine xk_load rfl (p := 46) rfl rfl ?_
            refine xk_load rfl (p := 47) rfl rfl ?_
            refine xk_push rfl (p := 48) rfl ?_
            refine xk_bin rfl (p := 49) rfl (z := (x + 1)) (congrArg some (xadd_r (by omega) (by omega))) ?_
            refine xk_ast rfl (p := 50) rfl (by decide) rfl (xsk (ly_ms9 L)) (xsn (ly_ms9 L) (show k < 4 by omega)) (by omega) ?_
            refine xk_load rfl (p := 51) rfl rfl ?_
            refine xk_getf rfl (p := 54) rfl (xob (ly_m L) (by decide)) (v := (2, ((301 : Nat) : Int))) (xsl2 rfl (ly_mp10 L)) ?_
            refine xk_load rfl (p := 55) rfl rfl ?_
            refine xk_push rfl (p := 56) rfl ?_
            refine xk_ast rfl (p := 57) rfl (by decide) rfl (xsk (ly_ms10 L)) (xsn (ly_ms10 L) (show k < 4 by omega)) (by omega) ?_
            refine xk_load rfl (p := 58) rfl rfl ?_
            refine xk_getf rfl (p := 61) rfl (xob (ly_m L) (by decide)) (v := (2, ((302 : Nat) : Int))) (xsl2 rfl (ly_mp11 L)) ?_
            refine xk_load rfl (p := 62) rfl rfl ?_
            refine xk_push rfl (p := 63) rfl ?_
            refine xk_ast rfl (p := 64) rfl (by decide) rfl (xsk (ly_ms11 L)) (xsn (ly_ms11 L) (show k < 4 by omega)) (by omega) ?_
            refine xk_load rfl (p := 65) rfl rfl ?_
            refine xk_ret rfl (rfl) ?_
            have e : sFre m = k := xfst_eq (by omega) (fun i hi => decide_eq_false (hi1 i hi)) (fun _ => decide_eq_true (by omega))
            exact yRet ((if_pos (by assumption)).trans (by rw [e]; exact if_neg (by omega))) (((hM.up).up).up) ((((Md.rf).up (by decide)).up (by decide)).up (by decide))
          · replace c35_6 : ((k : Nat) : Int) = 4 := Decidable.not_not.mp c35_6
            refine xk_push rfl (p := 40) rfl ?_
            refine xk_ret rfl (rfl) ?_
            have e : sFre m = k := xfst_eq (by omega) (fun i hi => decide_eq_false (hi1 i hi)) (fun _ => decide_eq_true (by omega))
            exact yRet ((if_pos (by assumption)).trans (by rw [e]; exact if_pos (by omega))) (hM) (Md.rf)
        · replace c24_5 : ¬ (m 300 k ≤ 0) := c24_5
          refine xk_inc1 rfl (p := 30) rfl (n := k) rfl (by omega) (ls' := [(2, ((292 : Nat) : Int)), (0, x), (0, ((k + 1 : Nat) : Int))]) rfl ?_
          refine xk_goto rfl ?_
          exact ih2 (by omega)  (by exact xall_up hi1 (by omega))
    exact lp2 0 (by omega)  (by intro i h; omega)
  · replace c6_1 : ¬ (0 ≤ x ∧ x ≤ 3) := xb_e1 c6_1
    refine xk_push rfl (p := 10) rfl ?_
    refine xk_ret rfl (rfl) ?_
    exact yRet (if_neg (by assumption)) hM Md.rf

def tDr (n : Nat) : Nat → xD → xD
  | 0, m => m
  | g + 1, m => tDrop (tDr n g m) n
/-- how many of a name's entries are ahead of a time -/
def sGn (m : xD) (n : Nat) (x : Int) : Nat := xfst (fun i => decide (x ≤ m 299 (18 * n + 3 * i))) (nJ m n)
def tEx (m : xD) (x : Int) : Nat → Nat × xD
  | 0 => (0, m)
  | K + 1 => ((tEx m x K).1 + sGn (tEx m x K).2 K x, tDr K (sGn (tEx m x K).2 K x) (tEx m x K).2)
def y_expire (m : xD) (x : Int) : Option xV × xD := (some (0, (((tEx m x (nN m)).1 : Nat) : Int)), (tEx m x (nN m)).2)
theorem tDr_kp {m : xD} {n : Nat} : ∀ g, Kp m (tDr n g m)
  | 0 => fun _ _ _ => rfl
  | g + 1 => (tDr_kp g).tr tDrop_kp
theorem tDr_J {m : xD} {n : Nat} : ∀ g, g ≤ nJ m n → nJ (tDr n g m) n = nJ m n - g
  | 0, _ => rfl
  | g + 1, h => by
    have := tDr_J (m := m) (n := n) g (by omega)
    show nJ (tDrop (tDr n g m) n) n = _
    rw [tDrop_J, this]
    omega
theorem tDr_98 {m : xD} {n q : Nat} (h : q ≠ n) : ∀ g, tDr n g m 298 q = m 298 q
  | 0 => rfl
  | g + 1 => by
    show tDrop (tDr n g m) n 298 q = _
    rw [tDrop_98, if_neg h, tDr_98 h g]
theorem tDr_99 {m : xD} {n : Nat} : ∀ g, g ≤ nJ m n → ∀ k, k < 3 * (nJ m n - g) → tDr n g m 299 (18 * n + k) = m 299 (18 * n + k + 3 * g)
  | 0, _, k, _ => rfl
  | g + 1, h, k, hk => by
    have e := tDr_J (m := m) (n := n) g (by omega)
    show tDrop (tDr n g m) n 299 (18 * n + k) = _
    rw [tDrop_99 (by omega), show 18 * n + k + 3 = 18 * n + (k + 3) by omega, tDr_99 g (by omega) (k + 3) (by omega)]
    exact congrArg (m 299) (by omega)
theorem tDr_9o {m : xD} {n q k : Nat} (h : q ≠ n) (hk : k < 18) (h6 : nJ m n ≤ 6) : ∀ g, g ≤ nJ m n → tDr n g m 299 (18 * q + k) = m 299 (18 * q + k)
  | 0, _ => rfl
  | g + 1, hg => by
    have e := tDr_J (m := m) (n := n) g (by omega)
    show tDrop (tDr n g m) n 299 (18 * q + k) = _
    rw [tDrop_9o h hk (by omega), tDr_9o h hk h6 g (by omega)]
theorem Inv.dr {m : xD} (h : Inv m) {n g : Nat} (hn : n < nN m) (hg : g ≤ nJ m n) : Inv (tDr n g m) := h.kp (tDr_kp g) (fun q hq => by
  by_cases c : q = n
  · subst c
    have a := tDr_J (m := m) (n := q) g hg
    have b := iJn h hq
    have e : tDr q g m 298 q = ((nJ (tDr q g m) q : Nat) : Int) ∨ g = 0 := by
      cases g with
      | zero => exact .inr rfl
      | succ g => exact .inl tDrop_n
    rcases e with e | e
    · rw [e, a]; omega
    · subst e
      exact iJ h hq
  · rw [tDr_98 c]
    exact iJ h hq)
theorem sGn_le {m : xD} {n : Nat} {x : Int} : sGn m n x ≤ nJ m n := xfst_le _ _
theorem nN_dr {m : xD} {n g : Nat} : nN (tDr n g m) = nN m := by
  unfold nN
  rw [tDr_kp g 292 0 (by decide)]
theorem sGn_at {m : xD} {n g : Nat} {x : Int} (h : g ≤ sGn m n x) : (g < sGn m n x ∧ g < nJ m n ∧ m 299 (18 * n + 3 * g) < x) ∨ (g = sGn m n x ∧ (nJ m n ≤ g ∨ x ≤ m 299 (18 * n + 3 * g))) := by
  have le := sGn_le (m := m) (n := n) (x := x)
  by_cases c : g < sGn m n x
  · have := of_decide_eq_false (xfst_lt (fun i => decide (x ≤ m 299 (18 * n + 3 * i))) (nJ m n) g c)
    exact .inl ⟨c, by omega, by omega⟩
  · have e : g = sGn m n x := by omega
    refine .inr ⟨e, ?_⟩
    by_cases c2 : sGn m n x < nJ m n
    · have := of_decide_eq_true (xfst_at (fun i => decide (x ≤ m 299 (18 * n + 3 * i))) (nJ m n) c2)
      rw [e]
      exact .inr this
    · exact .inl (by omega)
theorem tEx_ok {m : xD} (h : Inv m) {x : Int} : ∀ K, K ≤ nN m → Inv (tEx m x K).2 ∧ Kp m (tEx m x K).2 ∧ nN (tEx m x K).2 = nN m ∧ (tEx m x K).1 ≤ 6 * K ∧ (∀ q, K ≤ q → q < nN m → (tEx m x K).2 298 q = m 298 q ∧ ∀ k, k < 18 → (tEx m x K).2 299 (18 * q + k) = m 299 (18 * q + k))
  | 0, _ => ⟨h, fun _ _ _ => rfl, rfl, Nat.le_refl 0, fun _ _ _ => ⟨rfl, fun _ _ => rfl⟩⟩
  | K + 1, hK => by
    obtain ⟨a1, a2, a3, a4, a5⟩ := tEx_ok h (x := x) K (by omega)
    have g0 := sGn_le (m := (tEx m x K).2) (n := K) (x := x)
    have j6 := iJn a1 (n := K) (by omega)
    refine ⟨a1.dr (by omega) g0, a2.tr (tDr_kp _), ?_, ?_, fun q hq hq2 => ⟨?_, fun k hk => ?_⟩⟩
    · show nN (tDr K _ (tEx m x K).2) = _
      unfold nN
      rw [tDr_kp _ 292 0 (by decide), a2 292 0 (by decide)]
    · show (tEx m x K).1 + _ ≤ _
      omega
    · show tDr K _ (tEx m x K).2 298 q = _
      rw [tDr_98 (by omega), (a5 q (by omega) hq2).1]
    · show tDr K _ (tEx m x K).2 299 _ = _
      rw [tDr_9o (by omega) hk j6.2 _ g0, (a5 q (by omega) hq2).2 k hk]
theorem n_expire {d : Nat} {g : xG} {t m : xD} {x : Int} (L : xLay g) (hM : Mo t m) (hI : Inv m) : xCall (d + 1) 141 [(2, ((292 : Nat) : Int)), (0, x)] g t (yQ g t (y_expire m x)) := by
  show xOk (d + 1) 141 0 [(2, ((292 : Nat) : Int)), (0, x), (3, 0), (3, 0)] [] g t _
  have iNn_ := iNn hI
  refine xk_push rfl (p := 1) rfl ?_
  refine xk_store rfl (p := 2) rfl (by decide) (Nat.le_of_ble_eq_true rfl) (ls' := [(2, ((292 : Nat) : Int)), (0, x), (0, 0), (3, 0)]) rfl ?_
  refine xk_push rfl (p := 3) rfl ?_
  refine xk_store rfl (p := 4) rfl (by decide) (Nat.le_of_ble_eq_true rfl) (ls' := [(2, ((292 : Nat) : Int)), (0, x), (0, 0), (0, 0)]) rfl ?_
  have lp1 : ∀ k : Nat, k ≤ nN m → ∀ (z : Nat) (t1 : xD), (Mo t1 (tEx m x k).2) → (Md t t1) → (z = (tEx m x k).1) → xOk (d + 1) 141 4 [(2, ((292 : Nat) : Int)), (0, x), (0, ((z : Nat) : Int)), (0, ((k : Nat) : Int))] [] g t1 (yQ g t (y_expire m x)) := by
    refine xk_up (nN m) (fun k hkk ih1 z t1 hi1 hi2 hi3 => ?_)
    have ex_ := tEx_ok hI (x := x) k hkk
    refine xk_load rfl (p := 5) rfl rfl ?_
    refine xk_load rfl (p := 6) rfl rfl ?_
    refine xk_getf rfl (p := 9) rfl (xob (ly_m L) (by decide)) (v := (0, ((nN m : Nat) : Int))) (xsl0 rfl ((hi1 292 0 (by decide)).trans ((ex_.2.1 292 0 (by decide)).trans (iNn hI).1))) ?_
    refine xk_icmp rfl (p := 12) rfl (fun c9_2 => ?_) (fun c9_2 => ?_)
    · replace c9_2 : ((nN m : Nat) : Int) ≤ ((k : Nat) : Int) := c9_2
      refine xk_load rfl (p := 52) rfl rfl ?_
      refine xk_ret rfl (rfl) ?_
      rw [show k = nN m by omega] at hi1 hi3
      exact yRet (by rw [hi3]; rfl) hi1 hi2
    · replace c9_2 : ¬ (((nN m : Nat) : Int) ≤ ((k : Nat) : Int)) := c9_2
      have lp3 : ∀ q : Nat, q ≤ sGn (tEx m x k).2 k x → ∀ (y2 : Nat) (t2 : xD), (Mo t2 (tDr k q (tEx m x k).2)) → (Md t t2) → (y2 = z + q) → xOk (d + 1) 141 12 [(2, ((292 : Nat) : Int)), (0, x), (0, ((y2 : Nat) : Int)), (0, ((k : Nat) : Int))] [] g t2 (yQ g t (y_expire m x)) := by
        refine xk_up (sGn (tEx m x k).2 k x) (fun q hkq ih3 y2 t2 hg1 hg2 hg3 => ?_)
        have gx_ := sGn_at (m := (tEx m x k).2) (n := k) (x := x) (g := q) (by omega)
        have gl_ := sGn_le (m := (tEx m x k).2) (n := k) (x := x)
        have jn_ := iJn ex_.1 (n := k) (by rw [ex_.2.2.1]; omega)
        have jd_ := tDr_J (m := (tEx m x k).2) (n := k) q (by omega)
        have iDr_ := iJn (ex_.1.dr (n := k) (g := q) (by rw [ex_.2.2.1]; omega) (by omega)) (n := k) (by rw [nN_dr, ex_.2.2.1]; omega)
        refine xk_load rfl (p := 13) rfl rfl ?_
        refine xk_getf rfl (p := 16) rfl (xob (ly_m L) (by decide)) (v := (2, ((298 : Nat) : Int))) (xsl2 rfl (ly_mp7 L)) ?_
        refine xk_load rfl (p := 17) rfl rfl ?_
        refine xk_ald rfl (p := 18) rfl (v := (0, ((nJ (tEx m x k).2 k - q : Nat) : Int))) ((xal0 (ly_ms7 L) (show k < 12 by omega)).trans (congrArg (fun z => some (0, z)) ((hg1 298 k (by decide)).trans (iDr_.1.trans (by rw [tDr_J q (by omega)]))))) ?_
        refine xk_if rfl (p := 21) rfl (fun c18_4 => ?_) (fun c18_4 => ?_)
        · replace c18_4 : ((nJ (tEx m x k).2 k - q : Nat) : Int) ≤ 0 := c18_4
          refine xk_inc1 rfl (p := 48) rfl (n := k) rfl (by omega) (ls' := [(2, ((292 : Nat) : Int)), (0, x), (0, ((y2 : Nat) : Int)), (0, ((k + 1 : Nat) : Int))]) rfl ?_
          refine xk_goto rfl ?_
          exact ih1 (by omega) y2 t2 (by rw [show q = sGn (tEx m x k).2 k x by omega] at hg1; exact hg1) (by exact hg2) (by show y2 = (tEx m x k).1 + sGn (tEx m x k).2 k x; omega)
        · replace c18_4 : ¬ (((nJ (tEx m x k).2 k - q : Nat) : Int) ≤ 0) := c18_4
          refine xk_load rfl (p := 22) rfl rfl ?_
          refine xk_getf rfl (p := 25) rfl (xob (ly_m L) (by decide)) (v := (2, ((299 : Nat) : Int))) (xsl2 rfl (ly_mp8 L)) ?_
          refine xk_push rfl (p := 27) rfl ?_
          refine xk_load rfl (p := 28) rfl rfl ?_
          refine xk_bin rfl (p := 29) rfl (z := ((18 * k : Nat) : Int)) (congrArg some (xmul_n (n := 18) (m := k) (by omega))) ?_
          refine xk_ald rfl (p := 30) rfl (v := (0, (tEx m x k).2 299 (18 * k + 3 * q))) ((xal0 (ly_ms8 L) (show 18 * k < 216 by omega)).trans (congrArg (fun z => some (0, z)) ((hg1 299 _ (by decide)).trans (tDr_99 q (by omega) 0 (by omega))))) ?_
          refine xk_load rfl (p := 31) rfl rfl ?_
          refine xk_icmp rfl (p := 34) rfl (fun c31_5 => ?_) (fun c31_5 => ?_)
          · replace c31_5 : x ≤ (tEx m x k).2 299 (18 * k + 3 * q) := c31_5
            refine xk_inc1 rfl (p := 48) rfl (n := k) rfl (by omega) (ls' := [(2, ((292 : Nat) : Int)), (0, x), (0, ((y2 : Nat) : Int)), (0, ((k + 1 : Nat) : Int))]) rfl ?_
            refine xk_goto rfl ?_
            exact ih1 (by omega) y2 t2 (by rw [show q = sGn (tEx m x k).2 k x by omega] at hg1; exact hg1) (by exact hg2) (by show y2 = (tEx m x k).1 + sGn (tEx m x k).2 k x; omega)
          · replace c31_5 : ¬ (x ≤ (tEx m x k).2 299 (18 * k + 3 * q)) := c31_5
            refine xk_load rfl (p := 35) rfl rfl ?_
            refine xk_load rfl (p := 36) rfl rfl ?_
            refine xk_call rfl (p := 39) rfl (by decide) rfl (Nat.le_of_ble_eq_true rfl) (Nat.le_of_ble_eq_true rfl) (xrv (ly_m L) (by decide)) (as := [(2, ((292 : Nat) : Int)), (0, ((k : Nat) : Int))]) (r := []) rfl (n_drops L hg1 (ex_.1.dr (n := k) (g := q) (by rw [ex_.2.2.1]; omega) (by omega)) (by rw [nN_dr, ex_.2.2.1]; omega) (by rw [tDr_J q (by omega)]; omega)) ?_
            rintro _ g t3 ⟨rfl, rfl, hM3, hD3⟩
            refine xk_inc1 rfl (p := 42) rfl (n := y2) rfl (by omega) (ls' := [(2, ((292 : Nat) : Int)), (0, x), (0, ((y2 + 1 : Nat) : Int)), (0, ((k : Nat) : Int))]) rfl ?_
            refine xk_goto rfl ?_
            exact ih3 (by omega) (y2 + 1) t3 (by exact hM3) (by exact hg2.tr hD3) (by omega)
      exact lp3 0 (by omega) z t1 (by exact hi1) (by exact hi2) (by rfl)
  exact lp1 0 (by omega) 0 t (by exact hM) (by exact Md.rf) (by rfl)
