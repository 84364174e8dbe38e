/-! THE MODEL: STEPS -/
theorem tCom_0 {m : xD} (h : (tCom m).1 = 0) : (tCom m).2 = m := by
  unfold tCom at h ⊢
  split at h
  · rename_i c; rw [if_pos c]
  · split at h
    · cases h
    · split at h
      · cases h
      · cases h
theorem tRep_0 {m : xD} (h : (tRep m).1 = 0) : (tRep m).2 = m := by
  unfold tRep at h ⊢
  split at h
  · rename_i c; rw [if_pos c]
  · split at h
    · cases h
    · cases h
theorem tGo_0 {m : xD} {x : Int} (h : (tGo x m).1 = 0) : (tGo x m).2 = m := by
  unfold tGo at h ⊢
  split at h
  · rename_i c; rw [if_pos c]; exact tCom_0 h
  · rename_i c; rw [if_neg c]; exact tRep_0 h
theorem tCom_b {m : xD} : (tCom m).1 = 0 ∨ (tCom m).1 = 1 := by
  unfold tCom
  split
  · exact .inl rfl
  · split
    · exact .inr rfl
    · split
      · exact .inr rfl
      · exact .inr rfl
theorem tRep_b {m : xD} : (tRep m).1 = 0 ∨ (tRep m).1 = 1 := by
  unfold tRep
  split
  · exact .inl rfl
  · split
    · exact .inr rfl
    · exact .inr rfl
theorem tGo_b {m : xD} {x : Int} : (tGo x m).1 = 0 ∨ (tGo x m).1 = 1 := by
  unfold tGo
  split
  · exact tCom_b
  · exact tRep_b
theorem tSt_le {k : Int} : ∀ {n : Nat} {m : xD}, (tSt k n m).1 ≤ n
  | 0, _ => Nat.le_refl 0
  | n + 1, m => by
    have := tSt_le (k := k) (n := n) (m := (tGo k m).2)
    unfold tSt
    split
    · exact Nat.zero_le _
    · show _ + 1 ≤ _
      omega
theorem tSt_s0 {k : Int} {n : Nat} {m : xD} (h : (tGo k m).1 = 0) : tSt k (n + 1) m = (0, m) := if_pos h
theorem tSt_s1 {k : Int} {n : Nat} {m : xD} (h : ¬ (tGo k m).1 = 0) : tSt k (n + 1) m = ((tSt k n (tGo k m).2).1 + 1, (tSt k n (tGo k m).2).2) := if_neg h
theorem Inv.rea {m : xD} (h : Inv m) {x : Int} (h1 : -1 ≤ x) (h2 : x < m 292 0) : Inv (xupd m 292 15 x) := by
  refine ⟨h.1, h.2.1, h.2.2.1, h.2.2.2.1, h.2.2.2.2.1, h.2.2.2.2.2.1, h.2.2.2.2.2.2.1, h.2.2.2.2.2.2.2.1, ?_, h.2.2.2.2.2.2.2.2.2⟩
  rcases iP h with a | a
  · exact .inl a
  · exact .inr ⟨a.1, h1, h2⟩
theorem sNx_rng {m : xD} {K : Nat} : -1 ≤ sNx m K ∧ sNx m K < K := by
  rcases sNx_ok (m := m) K with ⟨h1, -⟩ | ⟨h1, h2, -, -⟩ <;> omega
theorem tEnd_st {m : xD} {k : Nat} : sSto (tEnd m k) k = sSto m k := by
  unfold sSto
  rw [show tEnd m k 296 k = m 296 k from (if_neg (by omega)).trans (if_neg (by omega)), show tEnd m k 297 k = m 297 k from (if_neg (by omega)).trans (if_neg (by omega))]
theorem tEnd_u1 {m : xD} {k : Nat} (h : m 296 k = tPk m k) : xupd (xupd (tEnd m k) 297 k (tPk m k)) 296 k 0 = tEnd m (k + 1) := by
  funext a j
  unfold xupd tEnd
  by_cases c1 : a = 296
  · subst c1
    by_cases c2 : j = k
    · subst c2; simp [h]
    · have : j < k + 1 ↔ j < k := by omega
      simp [c2, this]
  · by_cases c4 : a = 297
    · subst c4
      by_cases c2 : j = k
      · subst c2; simp
      · have : j < k + 1 ↔ j < k := by omega
        simp [c2, this]
    · simp [c1, c4]
theorem tEnd_u2 {m : xD} {k : Nat} (h : ¬ m 296 k = tPk m k) : xupd (tEnd m k) 297 k (tPk m k) = tEnd m (k + 1) := by
  funext a j
  unfold xupd tEnd
  by_cases c1 : a = 296
  · subst c1
    by_cases c2 : j = k
    · subst c2; simp [h]
    · have : j < k + 1 ↔ j < k := by omega
      simp [c2, this]
  · by_cases c4 : a = 297
    · subst c4
      by_cases c2 : j = k
      · subst c2; simp
      · have : j < k + 1 ↔ j < k := by omega
        simp [c2, this]
    · simp [c1, c4]
theorem Mo.en {t m : xD} {k : Nat} {x : Int} (h : Mo t (tEnd m k)) (hx : x = tPk m k) (c : ¬ m 296 k = x) : Mo (xupd t 297 k x) (tEnd m (k + 1)) := by
  subst hx
  rw [← tEnd_u2 c]
  exact h.up
theorem Mo.ez {t m : xD} {k : Nat} {x : Int} (h : Mo t (tEnd m k)) (hx : x = tPk m k) (c : m 296 k = x) : Mo (xupd (xupd t 297 k x) 296 k 0) (tEnd m (k + 1)) := by
  subst hx
  rw [← tEnd_u1 c]
  exact h.up.up
theorem tEnd_0 {m : xD} : tEnd m 0 = m := by
  funext a k
  unfold tEnd
  rw [if_neg (by omega), if_neg (by omega)]
theorem n_drops {d : Nat} {g : xG} {t m : xD} {n : Nat} (L : xLay g) (hM : Mo t m) (hI : Inv m) (hn : n < nN m) (h1 : 1 ≤ nJ m n) : xCall (d) 140 [(2, ((292 : Nat) : Int)), (0, ((n : Nat) : Int))] g t (yQ g t (none, tDrop m n)) := by
  show xOk (d) 140 0 [(2, ((292 : Nat) : Int)), (0, ((n : Nat) : Int)), (3, 0)] [] g t _
  have iNn_ := iNn hI
  have iJn_ := iJn hI hn
  refine xk_load rfl (p := 1) rfl rfl ?_
  refine xk_getf rfl (p := 4) rfl (xob (ly_m L) (by decide)) (v := (2, ((298 : Nat) : Int))) (xsl2 rfl (ly_mp7 L)) ?_
  refine xk_load rfl (p := 5) rfl rfl ?_
  refine xk_dup2 rfl (p := 6) rfl (show ¬ ((0 : Nat) = 1 ∨ (2 : Nat) = 1) by decide) ?_
  refine xk_ald rfl (p := 7) rfl (v := (0, ((nJ m n : Nat) : Int))) ((xal0 (ly_ms7 L) (show n < 12 by omega)).trans (congrArg (fun z => some (0, z)) ((hM 298 n (by decide)).trans (iJn hI (show n < nN m by omega)).1))) ?_
  have iJn_ := iJn hI (show n < nN m by omega)
  refine xk_push rfl (p := 8) rfl ?_
  refine xk_bin rfl (p := 9) rfl (z := ((nJ m n - 1 : Nat) : Int)) (congrArg some (xsub_n (n := nJ m n) (m := 1) (by omega) (by omega))) ?_
  refine xk_ast rfl (p := 10) rfl (by decide) rfl (xsk (ly_ms7 L)) (xsn (ly_ms7 L) (show n < 12 by omega)) (by omega) ?_
  refine xk_push rfl (p := 11) rfl ?_
  refine xk_store rfl (p := 12) rfl (by decide) (Nat.le_of_ble_eq_true rfl) (ls' := [(2, ((292 : Nat) : Int)), (0, ((n : Nat) : Int)), (0, 0)]) rfl ?_
  have lp1 : ∀ k : Nat, k ≤ 3 * (nJ m n - 1) → ∀ (t1 : xD), (Mo t1 (xsh (xupd m 298 n ((nJ m n - 1 : Nat) : Int)) 299 (18 * n) 3 k)) → (Md t t1) → xOk (d) 140 12 [(2, ((292 : Nat) : Int)), (0, ((n : Nat) : Int)), (0, ((k : Nat) : Int))] [] g t1 (yQ g t (none, tDrop m n)) := by
    refine xk_up (3 * (nJ m n - 1)) (fun k hkk ih1  t1 hi1 hi2 => ?_)
    refine xk_load rfl (p := 13) rfl rfl ?_
    refine xk_push rfl (p := 14) rfl ?_
    refine xk_load rfl (p := 15) rfl rfl ?_
    refine xk_getf rfl (p := 18) rfl (xob (ly_m L) (by decide)) (v := (2, ((298 : Nat) : Int))) (xsl2 rfl (ly_mp7 L)) ?_
    refine xk_load rfl (p := 19) rfl rfl ?_
    refine xk_ald rfl (p := 20) rfl (v := (0, ((nJ m n - 1 : Nat) : Int))) ((xal0 (ly_ms7 L) (show n < 12 by omega)).trans (congrArg (fun z => some (0, z)) ((hi1 298 n (by decide)).trans ((xsh_ne (by omega)).trans xupd_eq)))) ?_
    refine xk_bin rfl (p := 21) rfl (z := ((3 * (nJ m n - 1) : Nat) : Int)) (congrArg some (xmul_n (n := 3) (m := nJ m n - 1) (by omega))) ?_
    refine xk_icmp rfl (p := 24) rfl (fun c21_2 => ?_) (fun c21_2 => ?_)
    · replace c21_2 : ((3 * (nJ m n - 1) : Nat) : Int) ≤ ((k : Nat) : Int) := c21_2
      refine xk_ret rfl (rfl) ?_
      exact yRet rfl (by rw [show k = 3 * (nJ m n - 1) by omega] at hi1; exact hi1) hi2
    · replace c21_2 : ¬ (((3 * (nJ m n - 1) : Nat) : Int) ≤ ((k : Nat) : Int)) := c21_2
      refine xk_load rfl (p := 25) rfl rfl ?_
      refine xk_getf rfl (p := 28) rfl (xob (ly_m L) (by decide)) (v := (2, ((299 : Nat) : Int))) (xsl2 rfl (ly_mp8 L)) ?_
      refine xk_push rfl (p := 30) rfl ?_
      refine xk_load rfl (p := 31) rfl rfl ?_
      refine xk_bin rfl (p := 32) rfl (z := ((18 * n : Nat) : Int)) (congrArg some (xmul_n (n := 18) (m := n) (by omega))) ?_
      refine xk_load rfl (p := 33) rfl rfl ?_
      refine xk_bin rfl (p := 34) rfl (z := ((18 * n + k : Nat) : Int)) (congrArg some (xadd_n (n := 18 * n) (m := k) (by omega))) ?_
      refine xk_load rfl (p := 35) rfl rfl ?_
      refine xk_getf rfl (p := 38) rfl (xob (ly_m L) (by decide)) (v := (2, ((299 : Nat) : Int))) (xsl2 rfl (ly_mp8 L)) ?_
      refine xk_push rfl (p := 40) rfl ?_
      refine xk_load rfl (p := 41) rfl rfl ?_
      refine xk_bin rfl (p := 42) rfl (z := ((18 * n : Nat) : Int)) (congrArg some (xmul_n (n := 18) (m := n) (by omega))) ?_
      refine xk_load rfl (p := 43) rfl rfl ?_
      refine xk_bin rfl (p := 44) rfl (z := ((18 * n + k : Nat) : Int)) (congrArg some (xadd_n (n := 18 * n) (m := k) (by omega))) ?_
      refine xk_push rfl (p := 45) rfl ?_
      refine xk_bin rfl (p := 46) rfl (z := ((18 * n + k + 3 : Nat) : Int)) (congrArg some (xadd_n (n := 18 * n + k) (m := 3) (by omega))) ?_
      refine xk_ald rfl (p := 47) rfl (v := (0, m 299 (18 * n + k + 3))) ((xal0 (ly_ms8 L) (show 18 * n + k + 3 < 216 by omega)).trans (congrArg (fun z => some (0, z)) ((hi1 299 (18 * n + k + 3) (by decide)).trans ((xsh_ne (by omega)).trans (xupd_ne (by omega)))))) ?_
      refine xk_ast rfl (p := 48) rfl (by decide) rfl (xsk (ly_ms8 L)) (xsn (ly_ms8 L) (show 18 * n + k < 216 by omega)) (by omega) ?_
      refine xk_inc1 rfl (p := 51) rfl (n := k) rfl (by omega) (ls' := [(2, ((292 : Nat) : Int)), (0, ((n : Nat) : Int)), (0, ((k + 1 : Nat) : Int))]) rfl ?_
      refine xk_goto rfl ?_
      exact ih1 (by omega)  (xupd t1 299 (18 * n + k) (m 299 (18 * n + k + 3))) (by exact hi1.ups rfl rfl) (by exact hi2.up (by decide))
  exact lp1 0 (by omega)  (xupd t 298 n ((nJ m n - 1 : Nat) : Int)) (by rw [xsh_0]; exact hM.up) (by exact Md.rf.up (by decide))

theorem n_notes {d : Nat} {g : xG} {t m : xD} {n : Nat} {x y : Int} (L : xLay g) (hM : Mo t m) (hI : Inv m) (hn : n < nN m) : xCall (d + 1) 152 [(2, ((292 : Nat) : Int)), (0, ((n : Nat) : Int)), (0, x), (0, y)] g t (yQ g t (none, tNote m n x y)) := by
  show xOk (d + 1) 152 0 [(2, ((292 : Nat) : Int)), (0, ((n : Nat) : Int)), (0, x), (0, y), (3, 0)] [] g t _
  have iNn_ := iNn hI
  have iJn_ := iJn hI hn
  refine xk_load rfl (p := 1) rfl rfl ?_
  refine xk_getf rfl (p := 4) rfl (xob (ly_m L) (by decide)) (v := (2, ((298 : Nat) : Int))) (xsl2 rfl (ly_mp7 L)) ?_
  refine xk_load rfl (p := 5) rfl rfl ?_
  refine xk_ald rfl (p := 6) rfl (v := (0, ((nJ m n : Nat) : Int))) ((xal0 (ly_ms7 L) (show n < 12 by omega)).trans (congrArg (fun z => some (0, z)) ((hM 298 n (by decide)).trans (iJn hI (show n < nN m by omega)).1))) ?_
  have iJn_ := iJn hI (show n < nN m by omega)
  refine xk_push rfl (p := 8) rfl ?_
  refine xk_icmp rfl (p := 11) rfl (fun c8_1 => ?_) (fun c8_1 => ?_)
  · replace c8_1 : ¬ (((nJ m n : Nat) : Int) = 6) := c8_1
    refine xk_push rfl (p := 18) rfl ?_
    refine xk_load rfl (p := 19) rfl rfl ?_
    refine xk_bin rfl (p := 20) rfl (z := ((18 * n : Nat) : Int)) (congrArg some (xmul_n (n := 18) (m := n) (by omega))) ?_
    refine xk_push rfl (p := 21) rfl ?_
    refine xk_load rfl (p := 22) rfl rfl ?_
    refine xk_getf rfl (p := 25) rfl (xob (ly_m L) (by decide)) (v := (2, ((298 : Nat) : Int))) (xsl2 rfl (ly_mp7 L)) ?_
    refine xk_load rfl (p := 26) rfl rfl ?_
    refine xk_ald rfl (p := 27) rfl (v := (0, ((nJ m n : Nat) : Int))) ((xal0 (ly_ms7 L) (show n < 12 by omega)).trans (congrArg (fun z => some (0, z)) ((hM 298 n (by decide)).trans (iJn hI (show n < nN m by omega)).1))) ?_
    have iJn_ := iJn hI (show n < nN m by omega)
    refine xk_bin rfl (p := 28) rfl (z := ((3 * (nJ m n) : Nat) : Int)) (congrArg some (xmul_n (n := 3) (m := nJ m n) (by omega))) ?_
    refine xk_bin rfl (p := 29) rfl (z := ((18 * n + (3 * (nJ m n)) : Nat) : Int)) (congrArg some (xadd_n (n := 18 * n) (m := 3 * (nJ m n)) (by omega))) ?_
    refine xk_store rfl (p := 31) rfl (by decide) (Nat.le_of_ble_eq_true rfl) (ls' := [(2, ((292 : Nat) : Int)), (0, ((n : Nat) : Int)), (0, x), (0, y), (0, ((18 * n + (3 * (nJ m n)) : Nat) : Int))]) rfl ?_
    refine xk_load rfl (p := 32) rfl rfl ?_
    refine xk_getf rfl (p := 35) rfl (xob (ly_m L) (by decide)) (v := (2, ((299 : Nat) : Int))) (xsl2 rfl (ly_mp8 L)) ?_
    refine xk_load rfl (p := 37) rfl rfl ?_
    refine xk_load rfl (p := 38) rfl rfl ?_
    refine xk_getf rfl (p := 41) rfl (xob (ly_m L) (by decide)) (v := (0, m 292 6)) (xsl0 rfl (hM 292 6 (by decide))) ?_
    refine xk_ast rfl (p := 42) rfl (by decide) rfl (xsk (ly_ms8 L)) (xsn (ly_ms8 L) (show 18 * n + (3 * (nJ m n)) < 216 by omega)) (by omega) ?_
    refine xk_load rfl (p := 43) rfl rfl ?_
    refine xk_getf rfl (p := 46) rfl (xob (ly_m L) (by decide)) (v := (2, ((299 : Nat) : Int))) (xsl2 rfl (ly_mp8 L)) ?_
    refine xk_load rfl (p := 48) rfl rfl ?_
    refine xk_push rfl (p := 49) rfl ?_
    refine xk_bin rfl (p := 50) rfl (z := ((18 * n + (3 * (nJ m n)) + 1 : Nat) : Int)) (congrArg some (xadd_n (n := 18 * n + (3 * (nJ m n))) (m := 1) (by omega))) ?_
    refine xk_load rfl (p := 51) rfl rfl ?_
    refine xk_ast rfl (p := 52) rfl (by decide) rfl (xsk (ly_ms8 L)) (xsn (ly_ms8 L) (show 18 * n + (3 * (nJ m n)) + 1 < 216 by omega)) (by omega) ?_
    refine xk_load rfl (p := 53) rfl rfl ?_
    refine xk_getf rfl (p := 56) rfl (xob (ly_m L) (by decide)) (v := (2, ((299 : Nat) : Int))) (xsl2 rfl (ly_mp8 L)) ?_
    refine xk_load rfl (p := 58) rfl rfl ?_
    refine xk_push rfl (p := 59) rfl ?_
    refine xk_bin rfl (p := 60) rfl (z := ((18 * n + (3 * (nJ m n)) + 2 : Nat) : Int)) (congrArg some (xadd_n (n := 18 * n + (3 * (nJ m n))) (m := 2) (by omega))) ?_
    refine xk_load rfl (p := 61) rfl rfl ?_
    refine xk_ast rfl (p := 62) rfl (by decide) rfl (xsk (ly_ms8 L)) (xsn (ly_ms8 L) (show 18 * n + (3 * (nJ m n)) + 2 < 216 by omega)) (by omega) ?_
    refine xk_load rfl (p := 63) rfl rfl ?_
    refine xk_getf rfl (p := 66) rfl (xob (ly_m L) (by decide)) (v := (2, ((298 : Nat) : Int))) (xsl2 rfl (ly_mp7 L)) ?_
    refine xk_load rfl (p := 67) rfl rfl ?_
    refine xk_dup2 rfl (p := 68) rfl (show ¬ ((0 : Nat) = 1 ∨ (2 : Nat) = 1) by decide) ?_
    refine xk_ald rfl (p := 69) rfl (v := (0, ((nJ m n : Nat) : Int))) ((xal0 (ly_ms7 L) (show n < 12 by omega)).trans (congrArg (fun z => some (0, z)) (((xupd_ne (by omega)).trans (((xupd_ne (by omega)).trans (((xupd_ne (by omega)).trans ((hM 298 n (by decide)).trans (iJn hI (show n < nN m by omega)).1))))))))) ?_
    have iJn_ := iJn hI (show n < nN m by omega)
    refine xk_push rfl (p := 70) rfl ?_
    refine xk_bin rfl (p := 71) rfl (z := ((nJ m n + 1 : Nat) : Int)) (congrArg some (xadd_n (n := nJ m n) (m := 1) (by omega))) ?_
    refine xk_ast rfl (p := 72) rfl (by decide) rfl (xsk (ly_ms7 L)) (xsn (ly_ms7 L) (show n < 12 by omega)) (by omega) ?_
    refine xk_ret rfl (rfl) ?_
    exact yRet (congrArg (Prod.mk none) (if_neg (by omega))) ((((hM.up).up).up).up) (((((Md.rf).up (by decide)).up (by decide)).up (by decide)).up (by decide))
  · replace c8_1 : ((nJ m n : Nat) : Int) = 6 := Decidable.not_not.mp c8_1
    refine xk_load rfl (p := 12) rfl rfl ?_
    refine xk_load rfl (p := 13) rfl rfl ?_
    refine xk_call rfl (p := 16) rfl (by decide) rfl (Nat.le_of_ble_eq_true rfl) (Nat.le_of_ble_eq_true rfl) (xrv (ly_m L) (by decide)) (as := [(2, ((292 : Nat) : Int)), (0, ((n : Nat) : Int))]) (r := []) rfl (n_drops L hM hI hn (by omega)) ?_
    rintro _ g t1 ⟨rfl, rfl, hM1, hD1⟩
    refine xk_push rfl (p := 18) rfl ?_
    refine xk_load rfl (p := 19) rfl rfl ?_
    refine xk_bin rfl (p := 20) rfl (z := ((18 * n : Nat) : Int)) (congrArg some (xmul_n (n := 18) (m := n) (by omega))) ?_
    refine xk_push rfl (p := 21) rfl ?_
    refine xk_load rfl (p := 22) rfl rfl ?_
    refine xk_getf rfl (p := 25) rfl (xob (ly_m L) (by decide)) (v := (2, ((298 : Nat) : Int))) (xsl2 rfl (ly_mp7 L)) ?_
    refine xk_load rfl (p := 26) rfl rfl ?_
    refine xk_ald rfl (p := 27) rfl (v := (0, ((nJ (tDrop m n) n : Nat) : Int))) ((xal0 (ly_ms7 L) (show n < 12 by omega)).trans (congrArg (fun z => some (0, z)) ((hM1 298 n (by decide)).trans tDrop_n))) ?_
    have tDrop_ := tDrop_J (m := m) (n := n)
    refine xk_bin rfl (p := 28) rfl (z := ((3 * (nJ (tDrop m n) n) : Nat) : Int)) (congrArg some (xmul_n (n := 3) (m := nJ (tDrop m n) n) (by omega))) ?_
    refine xk_bin rfl (p := 29) rfl (z := ((18 * n + (3 * (nJ (tDrop m n) n)) : Nat) : Int)) (congrArg some (xadd_n (n := 18 * n) (m := 3 * (nJ (tDrop m n) n)) (by omega))) ?_
    refine xk_store rfl (p := 31) rfl (by decide) (Nat.le_of_ble_eq_true rfl) (ls' := [(2, ((292 : Nat) : Int)), (0, ((n : Nat) : Int)), (0, x), (0, y), (0, ((18 * n + (3 * (nJ (tDrop m n) n)) : Nat) : Int))]) rfl ?_
    refine xk_load rfl (p := 32) rfl rfl ?_
    refine xk_getf rfl (p := 35) rfl (xob (ly_m L) (by decide)) (v := (2, ((299 : Nat) : Int))) (xsl2 rfl (ly_mp8 L)) ?_
    refine xk_load rfl (p := 37) rfl rfl ?_
    refine xk_load rfl (p := 38) rfl rfl ?_
    refine xk_getf rfl (p := 41) rfl (xob (ly_m L) (by decide)) (v := (0, tDrop m n 292 6)) (xsl0 rfl (hM1 292 6 (by decide))) ?_
    refine xk_ast rfl (p := 42) rfl (by decide) rfl (xsk (ly_ms8 L)) (xsn (ly_ms8 L) (show 18 * n + (3 * (nJ (tDrop m n) n)) < 216 by omega)) (by omega) ?_
    refine xk_load rfl (p := 43) rfl rfl ?_
    refine xk_getf rfl (p := 46) rfl (xob (ly_m L) (by decide)) (v := (2, ((299 : Nat) : Int))) (xsl2 rfl (ly_mp8 L)) ?_
    refine xk_load rfl (p := 48) rfl rfl ?_
    refine xk_push rfl (p := 49) rfl ?_
    refine xk_bin rfl (p := 50) rfl (z := ((18 * n + (3 * (nJ (tDrop m n) n)) + 1 : Nat) : Int)) (congrArg some (xadd_n (n := 18 * n + (3 * (nJ (tDrop m n) n))) (m := 1) (by omega))) ?_
    refine xk_load rfl (p := 51) rfl rfl ?_
    refine xk_ast rfl (p := 52) rfl (by decide) rfl (xsk (ly_ms8 L)) (xsn (ly_ms8 L) (show 18 * n + (3 * (nJ (tDrop m n) n)) + 1 < 216 by omega)) (by omega) ?_
    refine xk_load rfl (p := 53) rfl rfl ?_
    refine xk_getf rfl (p := 56) rfl (xob (ly_m L) (by decide)) (v := (2, ((299 : Nat) : Int))) (xsl2 rfl (ly_mp8 L)) ?_
    refine xk_load rfl (p := 58) rfl rfl ?_
    refine xk_push rfl (p := 59) rfl ?_
    refine xk_bin rfl (p := 60) rfl (z := ((18 * n + (3 * (nJ (tDrop m n) n)) + 2 : Nat) : Int)) (congrArg some (xadd_n (n := 18 * n + (3 * (nJ (tDrop m n) n))) (m := 2) (by omega))) ?_
    refine xk_load rfl (p := 61) rfl rfl ?_
    refine xk_ast rfl (p := 62) rfl (by decide) rfl (xsk (ly_ms8 L)) (xsn (ly_ms8 L) (show 18 * n + (3 * (nJ (tDrop m n) n)) + 2 < 216 by omega)) (by omega) ?_
    refine xk_load rfl (p := 63) rfl rfl ?_
    refine xk_getf rfl (p := 66) rfl (xob (ly_m L) (by decide)) (v := (2, ((298 : Nat) : Int))) (xsl2 rfl (ly_mp7 L)) ?_
    refine xk_load rfl (p := 67) rfl rfl ?_
    refine xk_dup2 rfl (p := 68) rfl (show ¬ ((0 : Nat) = 1 ∨ (2 : Nat) = 1) by decide) ?_
    refine xk_ald rfl (p := 69) rfl (v := (0, ((nJ (tDrop m n) n : Nat) : Int))) ((xal0 (ly_ms7 L) (show n < 12 by omega)).trans (congrArg (fun z => some (0, z)) (((xupd_ne (by omega)).trans (((xupd_ne (by omega)).trans (((xupd_ne (by omega)).trans ((hM1 298 n (by decide)).trans tDrop_n))))))))) ?_
    have tDrop_ := tDrop_J (m := m) (n := n)
    refine xk_push rfl (p := 70) rfl ?_
    refine xk_bin rfl (p := 71) rfl (z := ((nJ (tDrop m n) n + 1 : Nat) : Int)) (congrArg some (xadd_n (n := nJ (tDrop m n) n) (m := 1) (by omega))) ?_
    refine xk_ast rfl (p := 72) rfl (by decide) rfl (xsk (ly_ms7 L)) (xsn (ly_ms7 L) (show n < 12 by omega)) (by omega) ?_
    refine xk_ret rfl (rfl) ?_
    exact yRet (congrArg (Prod.mk none) (if_pos (by omega))) ((((hM1.up).up).up).up) ((((hD1.up (by decide)).up (by decide)).up (by decide)).up (by decide))

theorem n_applies {d : Nat} {g : xG} {t m : xD} {n r : Nat} (L : xLay g) (hM : Mo t m) (hI : Inv m) (hn : n < 4) (hk : 0 < m 300 n) (hr : r < nR m n) : xCall (d + 2) 153 [(2, ((292 : Nat) : Int)), (0, ((n : Nat) : Int)), (0, ((r : Nat) : Int))] g t (yQ g t (none, tApp m n r)) := by
  show xOk (d + 2) 153 0 [(2, ((292 : Nat) : Int)), (0, ((n : Nat) : Int)), (0, ((r : Nat) : Int)), (3, 0), (3, 0)] [] g t _
  have iNn_ := iNn hI
  have iRn_ := iRn hI hn
  have iRo_ := iRo hI hn hk hr
  refine xk_load rfl (p := 1) rfl rfl ?_
  refine xk_load rfl (p := 2) rfl rfl ?_
  refine xk_load rfl (p := 3) rfl rfl ?_
  refine xk_callp rfl (p := 6) rfl (by decide) rfl (Nat.le_of_ble_eq_true rfl) (Nat.le_of_ble_eq_true rfl) (xrv (ly_m L) (by decide)) (as := [(2, ((292 : Nat) : Int)), (0, ((n : Nat) : Int)), (0, ((r : Nat) : Int))]) (r := []) rfl (v := (0, m 303 (12 * n + r))) (n_nameOf L hM hI (show n < 4 by omega) (show r < 4 by omega)) ?_
  refine xk_store rfl (p := 7) rfl (by decide) (Nat.le_of_ble_eq_true rfl) (ls' := [(2, ((292 : Nat) : Int)), (0, ((n : Nat) : Int)), (0, ((r : Nat) : Int)), (0, m 303 (12 * n + r)), (3, 0)]) rfl ?_
  refine xk_load rfl (p := 8) rfl rfl ?_
  refine xk_load rfl (p := 9) rfl rfl ?_
  refine xk_stk (show _ = (0, (((m 303 (12 * n + r)).toNat : Nat) : Int)) :: [(2, ((292 : Nat) : Int))] from congrArg (fun z => ((0, z) : xV) :: [(2, ((292 : Nat) : Int))]) (Int.toNat_of_nonneg (show 0 ≤ m 303 (12 * n + r) by omega)).symm) ?_
  refine xk_callp rfl (p := 12) rfl (by decide) rfl (Nat.le_of_ble_eq_true rfl) (Nat.le_of_ble_eq_true rfl) (xrv (ly_m L) (by decide)) (as := [(2, ((292 : Nat) : Int)), (0, (((m 303 (12 * n + r)).toNat : Nat) : Int))]) (r := []) rfl (v := (0, sSto m ((m 303 (12 * n + r)).toNat))) (n_stored L hM hI (show (m 303 (12 * n + r)).toNat < 12 by omega)) ?_
  refine xk_store rfl (p := 14) rfl (by decide) (Nat.le_of_ble_eq_true rfl) (ls' := [(2, ((292 : Nat) : Int)), (0, ((n : Nat) : Int)), (0, ((r : Nat) : Int)), (0, m 303 (12 * n + r)), (0, sSto m ((m 303 (12 * n + r)).toNat))]) rfl ?_
  refine xk_load rfl (p := 15) rfl rfl ?_
  refine xk_getf rfl (p := 18) rfl (xob (ly_m L) (by decide)) (v := (2, ((296 : Nat) : Int))) (xsl2 rfl (ly_mp4 L)) ?_
  refine xk_load rfl (p := 19) rfl rfl ?_
  refine xk_load rfl (p := 20) rfl rfl ?_
  refine xk_load rfl (p := 21) rfl rfl ?_
  refine xk_load rfl (p := 22) rfl rfl ?_
  refine xk_callp rfl (p := 25) rfl (by decide) rfl (Nat.le_of_ble_eq_true rfl) (Nat.le_of_ble_eq_true rfl) (xrv (ly_m L) (by decide)) (as := [(2, ((292 : Nat) : Int)), (0, ((n : Nat) : Int)), (0, ((r : Nat) : Int))]) (r := [(0, m 303 (12 * n + r)), (2, ((296 : Nat) : Int))]) rfl (v := (0, m 303 (12 * n + 8 + r))) (xCall_eq (n_fresh L (m := m) (hM) hI (by omega) (by omega)) rfl) ?_
  refine xk_asti rfl (p := 26) rfl (show 0 ≤ m 303 (12 * n + r) by omega) (by decide) rfl (xsk (ly_ms4 L)) (xsn (ly_ms4 L) (show (m 303 (12 * n + r)).toNat < 12 by omega)) (by omega) ?_
  refine xk_load rfl (p := 27) rfl rfl ?_
  refine xk_load rfl (p := 28) rfl rfl ?_
  refine xk_load rfl (p := 29) rfl rfl ?_
  refine xk_callp rfl (p := 32) rfl (by decide) rfl (Nat.le_of_ble_eq_true rfl) (Nat.le_of_ble_eq_true rfl) (xrv (ly_m L) (by decide)) (as := [(2, ((292 : Nat) : Int)), (0, ((n : Nat) : Int)), (0, ((r : Nat) : Int))]) (r := []) rfl (v := (0, m 303 (12 * n + 8 + r))) (xCall_eq (n_fresh L (m := xupd m 296 ((m 303 (12 * n + r)).toNat) (m 303 (12 * n + 8 + r))) (hM.up) hI (by omega) (by omega)) rfl) ?_
  refine xk_if rfl (p := 35) rfl (fun c32_1 => ?_) (fun c32_1 => ?_)
  · replace c32_1 : ¬ (m 303 (12 * n + 8 + r) = 0) := c32_1
    refine xk_load rfl (p := 43) rfl rfl ?_
    refine xk_load rfl (p := 44) rfl rfl ?_
    refine xk_load rfl (p := 46) rfl rfl ?_
    refine xk_load rfl (p := 47) rfl rfl ?_
    refine xk_load rfl (p := 48) rfl rfl ?_
    refine xk_load rfl (p := 49) rfl rfl ?_
    refine xk_callp rfl (p := 52) rfl (by decide) rfl (Nat.le_of_ble_eq_true rfl) (Nat.le_of_ble_eq_true rfl) (xrv (ly_m L) (by decide)) (as := [(2, ((292 : Nat) : Int)), (0, ((n : Nat) : Int)), (0, ((r : Nat) : Int))]) (r := [(0, sSto m ((m 303 (12 * n + r)).toNat)), (0, m 303 (12 * n + r)), (2, ((292 : Nat) : Int))]) rfl (v := (0, m 303 (12 * n + 8 + r))) (xCall_eq (n_fresh L (m := xupd m 296 ((m 303 (12 * n + r)).toNat) (m 303 (12 * n + 8 + r))) (hM.up) hI (by omega) (by omega)) rfl) ?_
    refine xk_stk (show _ = (0, m 303 (12 * n + 8 + r)) :: (0, sSto m ((m 303 (12 * n + r)).toNat)) :: (0, (((m 303 (12 * n + r)).toNat : Nat) : Int)) :: [(2, ((292 : Nat) : Int))] from congrArg (fun z => ((0, m 303 (12 * n + 8 + r)) : xV) :: ((0, sSto m ((m 303 (12 * n + r)).toNat)) : xV) :: ((0, z) : xV) :: [(2, ((292 : Nat) : Int))]) (Int.toNat_of_nonneg (show 0 ≤ m 303 (12 * n + r) by omega)).symm) ?_
    refine xk_call rfl (p := 55) rfl (by decide) rfl (Nat.le_of_ble_eq_true rfl) (Nat.le_of_ble_eq_true rfl) (xrv (ly_m L) (by decide)) (as := [(2, ((292 : Nat) : Int)), (0, (((m 303 (12 * n + r)).toNat : Nat) : Int)), (0, sSto m ((m 303 (12 * n + r)).toNat)), (0, m 303 (12 * n + 8 + r))]) (r := []) rfl (n_notes (m := tSet m (m 303 (12 * n + r)).toNat (m 303 (12 * n + 8 + r))) L (by unfold tSet; rw [if_neg (by assumption)]; exact hM.up) hI.set (tSet_lt (show (m 303 (12 * n + r)).toNat < nN m by omega))) ?_
    rintro _ g t1 ⟨rfl, rfl, hM1, hD1⟩
    refine xk_ret rfl (rfl) ?_
    exact yRet rfl hM1 (Md.tr (Md.rf.up (by decide)) hD1)
  · replace c32_1 : m 303 (12 * n + 8 + r) = 0 := Decidable.not_not.mp c32_1
    refine xk_load rfl (p := 36) rfl rfl ?_
    refine xk_getf rfl (p := 39) rfl (xob (ly_m L) (by decide)) (v := (2, ((297 : Nat) : Int))) (xsl2 rfl (ly_mp5 L)) ?_
    refine xk_load rfl (p := 40) rfl rfl ?_
    refine xk_push rfl (p := 41) rfl ?_
    refine xk_asti rfl (p := 42) rfl (show 0 ≤ m 303 (12 * n + r) by omega) (by decide) rfl (xsk (ly_ms5 L)) (xsn (ly_ms5 L) (show (m 303 (12 * n + r)).toNat < 12 by omega)) (by omega) ?_
    refine xk_load rfl (p := 43) rfl rfl ?_
    refine xk_load rfl (p := 44) rfl rfl ?_
    refine xk_load rfl (p := 46) rfl rfl ?_
    refine xk_load rfl (p := 47) rfl rfl ?_
    refine xk_load rfl (p := 48) rfl rfl ?_
    refine xk_load rfl (p := 49) rfl rfl ?_
    refine xk_callp rfl (p := 52) rfl (by decide) rfl (Nat.le_of_ble_eq_true rfl) (Nat.le_of_ble_eq_true rfl) (xrv (ly_m L) (by decide)) (as := [(2, ((292 : Nat) : Int)), (0, ((n : Nat) : Int)), (0, ((r : Nat) : Int))]) (r := [(0, sSto m ((m 303 (12 * n + r)).toNat)), (0, m 303 (12 * n + r)), (2, ((292 : Nat) : Int))]) rfl (v := (0, m 303 (12 * n + 8 + r))) (xCall_eq (n_fresh L (m := xupd (xupd m 296 ((m 303 (12 * n + r)).toNat) (m 303 (12 * n + 8 + r))) 297 ((m 303 (12 * n + r)).toNat) 0) ((hM.up).up) hI (by omega) (by omega)) rfl) ?_
    refine xk_stk (show _ = (0, m 303 (12 * n + 8 + r)) :: (0, sSto m ((m 303 (12 * n + r)).toNat)) :: (0, (((m 303 (12 * n + r)).toNat : Nat) : Int)) :: [(2, ((292 : Nat) : Int))] from congrArg (fun z => ((0, m 303 (12 * n + 8 + r)) : xV) :: ((0, sSto m ((m 303 (12 * n + r)).toNat)) : xV) :: ((0, z) : xV) :: [(2, ((292 : Nat) : Int))]) (Int.toNat_of_nonneg (show 0 ≤ m 303 (12 * n + r) by omega)).symm) ?_
    refine xk_call rfl (p := 55) rfl (by decide) rfl (Nat.le_of_ble_eq_true rfl) (Nat.le_of_ble_eq_true rfl) (xrv (ly_m L) (by decide)) (as := [(2, ((292 : Nat) : Int)), (0, (((m 303 (12 * n + r)).toNat : Nat) : Int)), (0, sSto m ((m 303 (12 * n + r)).toNat)), (0, m 303 (12 * n + 8 + r))]) (r := []) rfl (n_notes (m := tSet m (m 303 (12 * n + r)).toNat (m 303 (12 * n + 8 + r))) L (by unfold tSet; rw [if_pos (by assumption)]; exact (hM.up).up) hI.set (tSet_lt (show (m 303 (12 * n + r)).toNat < nN m by omega))) ?_
    rintro _ g t1 ⟨rfl, rfl, hM1, hD1⟩
    refine xk_ret rfl (rfl) ?_
    exact yRet rfl hM1 (Md.tr ((Md.rf.up (by decide)).up (by decide)) hD1)

theorem sCom_done {m : xD} (hI : Inv m) : sCom m = -1 ∨ (0 ≤ m 292 13 ∧ m 292 13 ≤ m 301 (sCom m).toNat + 1 ∧ 0 < m 300 (sCom m).toNat ∧ m 302 (sCom m).toNat = 2 ∧ m 301 (sCom m).toNat = ((nR m (sCom m).toNat : Nat) : Int) ∧ nR m (sCom m).toNat ≤ 4) := by
  have h := sCom_rng (m := m)
  by_cases c : sCom m = -1
  · exact .inl c
  · have hd : (sCom m).toNat < 4 := by omega
    have a1 := sCom_at c
    have a2 := iO hI hd a1
    have a3 := iRn hI hd
    exact .inr ⟨a2.1, a2.2, a1.1, a1.2, a3.1, a3.2⟩
theorem n_commits {d : Nat} {g : xG} {t m : xD} (L : xLay g) (hM : Mo t m) (hI : Inv m) : xCall (d + 3) 154 [(2, ((292 : Nat) : Int))] g t (yQ g t (some (0, (tCom m).1), (tCom m).2)) := by
  show xOk (d + 3) 154 0 [(2, ((292 : Nat) : Int)), (3, 0)] [] g t _
  have iNn_ := iNn hI
  have sDone_ := sCom_done hI
  refine xk_load rfl (p := 1) rfl rfl ?_
  refine xk_callp rfl (p := 4) rfl (by decide) rfl (Nat.le_of_ble_eq_true rfl) (Nat.le_of_ble_eq_true rfl) (xrv (ly_m L) (by decide)) (as := [(2, ((292 : Nat) : Int))]) (r := []) rfl (v := (0, sCom m)) (n_committing L hM hI) ?_
  have sCom_ := sCom_rng (m := m)
  refine xk_store rfl (p := 5) rfl (by decide) (Nat.le_of_ble_eq_true rfl) (ls' := [(2, ((292 : Nat) : Int)), (0, sCom m)]) rfl ?_
  refine xk_load rfl (p := 6) rfl rfl ?_
  refine xk_push rfl (p := 7) rfl ?_
  refine xk_icmp rfl (p := 10) rfl (fun c7_1 => ?_) (fun c7_1 => ?_)
  · replace c7_1 : ¬ (sCom m = (-1)) := c7_1
    refine xk_load rfl (p := 13) rfl rfl ?_
    refine xk_getf rfl (p := 16) rfl (xob (ly_m L) (by decide)) (v := (0, m 292 13)) (xsl0 rfl (hM 292 13 (by decide))) ?_
    refine xk_load rfl (p := 17) rfl rfl ?_
    refine xk_getf rfl (p := 20) rfl (xob (ly_m L) (by decide)) (v := (2, ((301 : Nat) : Int))) (xsl2 rfl (ly_mp10 L)) ?_
    refine xk_load rfl (p := 21) rfl rfl ?_
    refine xk_aldi rfl (p := 22) rfl (show 0 ≤ sCom m by omega) (v := (0, ((nR m ((sCom m).toNat) : Nat) : Int))) ((xal0 (ly_ms10 L) (show (sCom m).toNat < 4 by omega)).trans (congrArg (fun z => some (0, z)) ((hM 301 ((sCom m).toNat) (by decide)).trans (iRn hI (show (sCom m).toNat < 4 by omega)).1))) ?_
    have iRn_ := iRn hI (show (sCom m).toNat < 4 by omega)
    refine xk_icmp rfl (p := 25) rfl (fun c22_2 => ?_) (fun c22_2 => ?_)
    · replace c22_2 : m 292 13 ≤ ((nR m ((sCom m).toNat) : Nat) : Int) := c22_2
      refine xk_load rfl (p := 46) rfl rfl ?_
      refine xk_getf rfl (p := 49) rfl (xob (ly_m L) (by decide)) (v := (0, m 292 13)) (xsl0 rfl (hM 292 13 (by decide))) ?_
      refine xk_if rfl (p := 52) rfl (fun c49_3 => ?_) (fun c49_3 => ?_)
      · replace c49_3 : m 292 13 ≤ 0 := c49_3
        refine xk_load rfl (p := 64) rfl rfl ?_
        refine xk_dup rfl (p := 65) rfl (show ¬ (2 : Nat) = 1 by decide) ?_
        refine xk_getf rfl (p := 68) rfl (xob (ly_m L) (by decide)) (v := (0, m 292 13)) (xsl0 rfl (hM 292 13 (by decide))) ?_
        refine xk_push rfl (p := 69) rfl ?_
        refine xk_bin rfl (p := 70) rfl (z := (m 292 13 + 1)) (congrArg some (xadd_r (by omega) (by omega))) ?_
        refine xk_putf rfl (p := 73) rfl (xob (ly_m L) (by decide)) rfl (by decide) (by decide) (fun h => absurd h (by decide)) (by omega) ?_
        refine xk_push rfl (p := 74) rfl ?_
        refine xk_ret rfl (rfl) ?_
        exact yRet (by unfold tCom; rw [if_neg (by omega), if_neg (by omega), if_pos (by omega)]) (hM.up) ((Md.rf).up (by decide))
      · replace c49_3 : ¬ (m 292 13 ≤ 0) := c49_3
        refine xk_load rfl (p := 53) rfl rfl ?_
        refine xk_load rfl (p := 54) rfl rfl ?_
        refine xk_load rfl (p := 55) rfl rfl ?_
        refine xk_getf rfl (p := 58) rfl (xob (ly_m L) (by decide)) (v := (0, m 292 13)) (xsl0 rfl (hM 292 13 (by decide))) ?_
        refine xk_push rfl (p := 59) rfl ?_
        refine xk_bin rfl (p := 60) rfl (z := (m 292 13 - 1)) (congrArg some (xsub_r (by omega) (by omega))) ?_
        refine xk_stk (show _ = (0, (m 292 13 - 1)) :: (0, (((sCom m).toNat : Nat) : Int)) :: [(2, ((292 : Nat) : Int))] from congrArg (fun z => ((0, (m 292 13 - 1)) : xV) :: ((0, z) : xV) :: [(2, ((292 : Nat) : Int))]) (Int.toNat_of_nonneg (show 0 ≤ sCom m by omega)).symm) ?_
        refine xk_stk (show _ = (0, (((m 292 13 - 1).toNat : Nat) : Int)) :: [(0, (((sCom m).toNat : Nat) : Int)), (2, ((292 : Nat) : Int))] from congrArg (fun z => ((0, z) : xV) :: [(0, (((sCom m).toNat : Nat) : Int)), (2, ((292 : Nat) : Int))]) (Int.toNat_of_nonneg (show 0 ≤ (m 292 13 - 1) by omega)).symm) ?_
        refine xk_call rfl (p := 63) rfl (by decide) rfl (Nat.le_of_ble_eq_true rfl) (Nat.le_of_ble_eq_true rfl) (xrv (ly_m L) (by decide)) (as := [(2, ((292 : Nat) : Int)), (0, (((sCom m).toNat : Nat) : Int)), (0, (((m 292 13 - 1).toNat : Nat) : Int))]) (r := []) rfl (n_applies L hM hI (show (sCom m).toNat < 4 by omega) (by omega) (show (m 292 13 - 1).toNat < nR m ((sCom m).toNat) by omega)) ?_
        rintro _ g t1 ⟨rfl, rfl, hM1, hD1⟩
        refine xk_load rfl (p := 64) rfl rfl ?_
        refine xk_dup rfl (p := 65) rfl (show ¬ (2 : Nat) = 1 by decide) ?_
        refine xk_getf rfl (p := 68) rfl (xob (ly_m L) (by decide)) (v := (0, m 292 13)) (xsl0 rfl ((hM1 292 13 (by decide)).trans (tApp_kp 292 13 (by decide)))) ?_
        refine xk_push rfl (p := 69) rfl ?_
        refine xk_bin rfl (p := 70) rfl (z := (m 292 13 + 1)) (congrArg some (xadd_r (by omega) (by omega))) ?_
        refine xk_putf rfl (p := 73) rfl (xob (ly_m L) (by decide)) rfl (by decide) (by decide) (fun h => absurd h (by decide)) (by omega) ?_
        refine xk_push rfl (p := 74) rfl ?_
        refine xk_ret rfl (rfl) ?_
        exact yRet (by unfold tCom; rw [if_neg (by omega), if_neg (by omega), if_neg (by omega)]) (hM1.up) (hD1.up (by decide))
    · replace c22_2 : ¬ (m 292 13 ≤ ((nR m ((sCom m).toNat) : Nat) : Int)) := c22_2
      refine xk_load rfl (p := 26) rfl rfl ?_
      refine xk_getf rfl (p := 29) rfl (xob (ly_m L) (by decide)) (v := (2, ((300 : Nat) : Int))) (xsl2 rfl (ly_mp9 L)) ?_
      refine xk_load rfl (p := 30) rfl rfl ?_
      refine xk_push rfl (p := 31) rfl ?_
      refine xk_asti rfl (p := 32) rfl (show 0 ≤ sCom m by omega) (by decide) rfl (xsk (ly_ms9 L)) (xsn (ly_ms9 L) (show (sCom m).toNat < 4 by omega)) (by omega) ?_
      refine xk_load rfl (p := 33) rfl rfl ?_
      refine xk_dup rfl (p := 34) rfl (show ¬ (2 : Nat) = 1 by decide) ?_
      refine xk_getf rfl (p := 37) rfl (xob (ly_m L) (by decide)) (v := (0, m 292 6)) (xsl0 rfl ((xupd_ne (by omega)).trans (hM 292 6 (by decide)))) ?_
      refine xk_push rfl (p := 38) rfl ?_
      refine xk_bin rfl (p := 39) rfl (z := xadd (m 292 6) 1) (rfl) ?_
      refine xk_putf rfl (p := 42) rfl (xob (ly_m L) (by decide)) rfl (by decide) (by decide) (fun h => absurd h (by decide)) (by omega) ?_
      refine xk_goto rfl ?_
      refine xk_load rfl (p := 64) rfl rfl ?_
      refine xk_dup rfl (p := 65) rfl (show ¬ (2 : Nat) = 1 by decide) ?_
      refine xk_getf rfl (p := 68) rfl (xob (ly_m L) (by decide)) (v := (0, m 292 13)) (xsl0 rfl ((xupd_ne (by omega)).trans (((xupd_ne (by omega)).trans (hM 292 13 (by decide)))))) ?_
      refine xk_push rfl (p := 69) rfl ?_
      refine xk_bin rfl (p := 70) rfl (z := (m 292 13 + 1)) (congrArg some (xadd_r (by omega) (by omega))) ?_
      refine xk_putf rfl (p := 73) rfl (xob (ly_m L) (by decide)) rfl (by decide) (by decide) (fun h => absurd h (by decide)) (by omega) ?_
      refine xk_push rfl (p := 74) rfl ?_
      refine xk_ret rfl (rfl) ?_
      exact yRet (by unfold tCom; rw [if_neg (by omega), if_pos (by omega)]) (((hM.up).up).up) ((((Md.rf).up (by decide)).up (by decide)).up (by decide))
  · replace c7_1 : sCom m = (-1) := Decidable.not_not.mp c7_1
    refine xk_push rfl (p := 11) rfl ?_
    refine xk_ret rfl (rfl) ?_
    exact yRet (by unfold tCom; rw [if_pos (by omega)]) (hM) (Md.rf)

theorem sNx_step {m : xD} {k : Nat} {z w : Int} (hz : z = sNx m k) (h : w = if (¬ sSto m k = 0 ∧ (m 292 15 = -1 ∨ kK m (m 292 15).toNat < kK m k)) then (if z = -1 then ((k : Nat) : Int) else if kK m k < kK m z.toNat then ((k : Nat) : Int) else z) else z) : w = sNx m (k + 1) := by
  rw [h, hz]
  show _ = (if bNx m k = true then _ else _)
  by_cases c : ¬ sSto m k = 0 ∧ (m 292 15 = -1 ∨ kK m (m 292 15).toNat < kK m k)
  · rw [if_pos c, if_pos (bNx_iff.mpr c)]
  · rw [if_neg c, if_neg (fun h => c (bNx_iff.mp h))]
theorem n_next {d : Nat} {g : xG} {t m : xD} (L : xLay g) (hM : Mo t m) (hI : Inv m) (hr : m 292 14 = 1) : xCall (d + 1) 155 [(2, ((292 : Nat) : Int))] g t (xQ g t (some (0, sNx m (nN m)))) := by
  show xOk (d + 1) 155 0 [(2, ((292 : Nat) : Int)), (3, 0), (3, 0)] [] g t _
  have iNn_ := iNn hI
  have iP_ := iP hI
  refine xk_push rfl (p := 1) rfl ?_
  refine xk_store rfl (p := 2) rfl (by decide) (Nat.le_of_ble_eq_true rfl) (ls' := [(2, ((292 : Nat) : Int)), (0, (-1)), (3, 0)]) rfl ?_
  refine xk_push rfl (p := 3) rfl ?_
  refine xk_store rfl (p := 4) rfl (by decide) (Nat.le_of_ble_eq_true rfl) (ls' := [(2, ((292 : Nat) : Int)), (0, (-1)), (0, 0)]) rfl ?_
  have lp1 : ∀ k : Nat, k ≤ nN m → ∀ (z : Int), (z = sNx m k) → xOk (d + 1) 155 4 [(2, ((292 : Nat) : Int)), (0, z), (0, ((k : Nat) : Int))] [] g t (xQ g t (some (0, sNx m (nN m)))) := by
    refine xk_up (nN m) (fun k hkk ih1 z hi1 => ?_)
    have sNx_ := sNx_rng (m := m) (K := k)
    rw [← hi1] at sNx_
    refine xk_load rfl (p := 5) rfl rfl ?_
    refine xk_load rfl (p := 6) rfl rfl ?_
    refine xk_getf rfl (p := 9) rfl (xob (ly_m L) (by decide)) (v := (0, ((nN m : Nat) : Int))) (xsl0 rfl ((hM 292 0 (by decide)).trans (iNn hI).1)) ?_
    have iNn_ := iNn hI
    refine xk_icmp rfl (p := 12) rfl (fun c9_2 => ?_) (fun c9_2 => ?_)
    · replace c9_2 : ((nN m : Nat) : Int) ≤ ((k : Nat) : Int) := c9_2
      refine xk_load rfl (p := 63) rfl rfl ?_
      refine xk_rete rfl (rfl) ?_
      rw [hi1, show k = nN m by omega]
    · replace c9_2 : ¬ (((nN m : Nat) : Int) ≤ ((k : Nat) : Int)) := c9_2
      refine xk_load rfl (p := 13) rfl rfl ?_
      refine xk_load rfl (p := 14) rfl rfl ?_
      refine xk_callp rfl (p := 17) rfl (by decide) rfl (Nat.le_of_ble_eq_true rfl) (Nat.le_of_ble_eq_true rfl) (xrv (ly_m L) (by decide)) (as := [(2, ((292 : Nat) : Int)), (0, ((k : Nat) : Int))]) (r := []) rfl (v := (0, sSto m k)) (n_stored L hM hI (show k < 12 by omega)) ?_
      refine xk_if rfl (p := 20) rfl (fun c17_3 => ?_) (fun c17_3 => ?_)
      · replace c17_3 : sSto m k = 0 := c17_3
        refine xk_inc1 rfl (p := 59) rfl (n := k) rfl (by omega) (ls' := [(2, ((292 : Nat) : Int)), (0, z), (0, ((k + 1 : Nat) : Int))]) rfl ?_
        refine xk_goto rfl ?_
        exact ih1 (by omega) z (by exact sNx_step hi1 (by (repeat' split) <;> omega))
      · replace c17_3 : ¬ (sSto m k = 0) := c17_3
        refine xk_load rfl (p := 21) rfl rfl ?_
        refine xk_getf rfl (p := 24) rfl (xob (ly_m L) (by decide)) (v := (0, m 292 15)) (xsl0 rfl (hM 292 15 (by decide))) ?_
        have iP_ := iP hI
        refine xk_push rfl (p := 25) rfl ?_
        refine xk_icmp rfl (p := 28) rfl (fun c25_4 => ?_) (fun c25_4 => ?_)
        · replace c25_4 : m 292 15 = (-1) := c25_4
          refine xk_load rfl (p := 41) rfl rfl ?_
          refine xk_push rfl (p := 42) rfl ?_
          refine xk_icmp rfl (p := 45) rfl (fun c42_5 => ?_) (fun c42_5 => ?_)
          · replace c42_5 : z = (-1) := c42_5
            refine xk_load rfl (p := 55) rfl rfl ?_
            refine xk_store rfl (p := 56) rfl (by decide) (Nat.le_of_ble_eq_true rfl) (ls' := [(2, ((292 : Nat) : Int)), (0, ((k : Nat) : Int)), (0, ((k : Nat) : Int))]) rfl ?_
            refine xk_inc1 rfl (p := 59) rfl (n := k) rfl (by omega) (ls' := [(2, ((292 : Nat) : Int)), (0, ((k : Nat) : Int)), (0, ((k + 1 : Nat) : Int))]) rfl ?_
            refine xk_goto rfl ?_
            exact ih1 (by omega) ((k : Nat) : Int) (by exact sNx_step hi1 (by (repeat' split) <;> omega))
          · replace c42_5 : ¬ (z = (-1)) := c42_5
            refine xk_load rfl (p := 46) rfl rfl ?_
            refine xk_load rfl (p := 47) rfl rfl ?_
            refine xk_load rfl (p := 48) rfl rfl ?_
            refine xk_stk (show _ = (0, ((z.toNat : Nat) : Int)) :: [(0, ((k : Nat) : Int)), (2, ((292 : Nat) : Int))] from congrArg (fun z => ((0, z) : xV) :: [(0, ((k : Nat) : Int)), (2, ((292 : Nat) : Int))]) (Int.toNat_of_nonneg (show 0 ≤ z by omega)).symm) ?_
            refine xk_callp rfl (p := 51) rfl (by decide) rfl (Nat.le_of_ble_eq_true rfl) (Nat.le_of_ble_eq_true rfl) (xrv (ly_m L) (by decide)) (as := [(2, ((292 : Nat) : Int)), (0, ((k : Nat) : Int)), (0, ((z.toNat : Nat) : Int))]) (r := []) rfl (v := (0, (if kK m k < kK m (z.toNat) then (1 : Int) else 0))) (xCall_eq (n_isBefore L hM hI (show k < nN m by omega) (show z.toNat < nN m by omega)) (xb_iff (bBef_key hI (show k < nN m by omega) (show z.toNat < nN m by omega)))) ?_
            refine xk_if rfl (p := 54) rfl (fun c51_6 => ?_) (fun c51_6 => ?_)
            · replace c51_6 : ¬ (kK m k < kK m (z.toNat)) := xb_e0 c51_6
              refine xk_inc1 rfl (p := 59) rfl (n := k) rfl (by omega) (ls' := [(2, ((292 : Nat) : Int)), (0, z), (0, ((k + 1 : Nat) : Int))]) rfl ?_
              refine xk_goto rfl ?_
              exact ih1 (by omega) z (by exact sNx_step hi1 (by (repeat' split) <;> omega))
            · replace c51_6 : kK m k < kK m (z.toNat) := xb_n0 c51_6
              refine xk_load rfl (p := 55) rfl rfl ?_
              refine xk_store rfl (p := 56) rfl (by decide) (Nat.le_of_ble_eq_true rfl) (ls' := [(2, ((292 : Nat) : Int)), (0, ((k : Nat) : Int)), (0, ((k : Nat) : Int))]) rfl ?_
              refine xk_inc1 rfl (p := 59) rfl (n := k) rfl (by omega) (ls' := [(2, ((292 : Nat) : Int)), (0, ((k : Nat) : Int)), (0, ((k + 1 : Nat) : Int))]) rfl ?_
              refine xk_goto rfl ?_
              exact ih1 (by omega) ((k : Nat) : Int) (by exact sNx_step hi1 (by (repeat' split) <;> omega))
        · replace c25_4 : ¬ (m 292 15 = (-1)) := c25_4
          refine xk_load rfl (p := 29) rfl rfl ?_
          refine xk_load rfl (p := 30) rfl rfl ?_
          refine xk_getf rfl (p := 33) rfl (xob (ly_m L) (by decide)) (v := (0, m 292 15)) (xsl0 rfl (hM 292 15 (by decide))) ?_
          have iP_ := iP hI
          refine xk_load rfl (p := 34) rfl rfl ?_
          refine xk_stk (show _ = (0, ((k : Nat) : Int)) :: (0, (((m 292 15).toNat : Nat) : Int)) :: [(2, ((292 : Nat) : Int))] from congrArg (fun z => ((0, ((k : Nat) : Int)) : xV) :: ((0, z) : xV) :: [(2, ((292 : Nat) : Int))]) (Int.toNat_of_nonneg (show 0 ≤ m 292 15 by omega)).symm) ?_
          refine xk_callp rfl (p := 37) rfl (by decide) rfl (Nat.le_of_ble_eq_true rfl) (Nat.le_of_ble_eq_true rfl) (xrv (ly_m L) (by decide)) (as := [(2, ((292 : Nat) : Int)), (0, (((m 292 15).toNat : Nat) : Int)), (0, ((k : Nat) : Int))]) (r := []) rfl (v := (0, (if kK m ((m 292 15).toNat) < kK m k then (1 : Int) else 0))) (xCall_eq (n_isBefore L hM hI (show (m 292 15).toNat < nN m by omega) (show k < nN m by omega)) (xb_iff (bBef_key hI (show (m 292 15).toNat < nN m by omega) (show k < nN m by omega)))) ?_
          refine xk_if rfl (p := 40) rfl (fun c37_7 => ?_) (fun c37_7 => ?_)
          · replace c37_7 : ¬ (kK m ((m 292 15).toNat) < kK m k) := xb_e0 c37_7
            refine xk_inc1 rfl (p := 59) rfl (n := k) rfl (by omega) (ls' := [(2, ((292 : Nat) : Int)), (0, z), (0, ((k + 1 : Nat) : Int))]) rfl ?_
            refine xk_goto rfl ?_
            exact ih1 (by omega) z (by exact sNx_step hi1 (by (repeat' split) <;> omega))
          · replace c37_7 : kK m ((m 292 15).toNat) < kK m k := xb_n0 c37_7
            refine xk_load rfl (p := 41) rfl rfl ?_
            refine xk_push rfl (p := 42) rfl ?_
            refine xk_icmp rfl (p := 45) rfl (fun c42_8 => ?_) (fun c42_8 => ?_)
            · replace c42_8 : z = (-1) := c42_8
              refine xk_load rfl (p := 55) rfl rfl ?_
              refine xk_store rfl (p := 56) rfl (by decide) (Nat.le_of_ble_eq_true rfl) (ls' := [(2, ((292 : Nat) : Int)), (0, ((k : Nat) : Int)), (0, ((k : Nat) : Int))]) rfl ?_
              refine xk_inc1 rfl (p := 59) rfl (n := k) rfl (by omega) (ls' := [(2, ((292 : Nat) : Int)), (0, ((k : Nat) : Int)), (0, ((k + 1 : Nat) : Int))]) rfl ?_
              refine xk_goto rfl ?_
              exact ih1 (by omega) ((k : Nat) : Int) (by exact sNx_step hi1 (by (repeat' split) <;> omega))
            · replace c42_8 : ¬ (z = (-1)) := c42_8
              refine xk_load rfl (p := 46) rfl rfl ?_
              refine xk_load rfl (p := 47) rfl rfl ?_
              refine xk_load rfl (p := 48) rfl rfl ?_
              refine xk_stk (show _ = (0, ((z.toNat : Nat) : Int)) :: [(0, ((k : Nat) : Int)), (2, ((292 : Nat) : Int))] from congrArg (fun z => ((0, z) : xV) :: [(0, ((k : Nat) : Int)), (2, ((292 : Nat) : Int))]) (Int.toNat_of_nonneg (show 0 ≤ z by omega)).symm) ?_
              refine xk_callp rfl (p := 51) rfl (by decide) rfl (Nat.le_of_ble_eq_true rfl) (Nat.le_of_ble_eq_true rfl) (xrv (ly_m L) (by decide)) (as := [(2, ((292 : Nat) : Int)), (0, ((k : Nat) : Int)), (0, ((z.toNat : Nat) : Int))]) (r := []) rfl (v := (0, (if kK m k < kK m (z.toNat) then (1 : Int) else 0))) (xCall_eq (n_isBefore L hM hI (show k < nN m by omega) (show z.toNat < nN m by omega)) (xb_iff (bBef_key hI (show k < nN m by omega) (show z.toNat < nN m by omega)))) ?_
              refine xk_if rfl (p := 54) rfl (fun c51_9 => ?_) (fun c51_9 => ?_)
              · replace c51_9 : ¬ (kK m k < kK m (z.toNat)) := xb_e0 c51_9
                refine xk_inc1 rfl (p := 59) rfl (n := k) rfl (by omega) (ls' := [(2, ((292 : Nat) : Int)), (0, z), (0, ((k + 1 : Nat) : Int))]) rfl ?_
                refine xk_goto rfl ?_
                exact ih1 (by omega) z (by exact sNx_step hi1 (by (repeat' split) <;> omega))
              · replace c51_9 : kK m k < kK m (z.toNat) := xb_n0 c51_9
                refine xk_load rfl (p := 55) rfl rfl ?_
                refine xk_store rfl (p := 56) rfl (by decide) (Nat.le_of_ble_eq_true rfl) (ls' := [(2, ((292 : Nat) : Int)), (0, ((k : Nat) : Int)), (0, ((k : Nat) : Int))]) rfl ?_
                refine xk_inc1 rfl (p := 59) rfl (n := k) rfl (by omega) (ls' := [(2, ((292 : Nat) : Int)), (0, ((k : Nat) : Int)), (0, ((k + 1 : Nat) : Int))]) rfl ?_
                refine xk_goto rfl ?_
                exact ih1 (by omega) ((k : Nat) : Int) (by exact sNx_step hi1 (by (repeat' split) <;> omega))
  exact lp1 0 (by omega) (-1) (by rfl)

theorem n_repacks {d : Nat} {g : xG} {t m : xD} (L : xLay g) (hM : Mo t m) (hI : Inv m) : xCall (d + 2) 156 [(2, ((292 : Nat) : Int))] g t (yQ g t (some (0, (tRep m).1), (tRep m).2)) := by
  show xOk (d + 2) 156 0 [(2, ((292 : Nat) : Int)), (3, 0), (3, 0)] [] g t _
  have iNn_ := iNn hI
  have iP_ := iP hI
  refine xk_load rfl (p := 1) rfl rfl ?_
  refine xk_getf rfl (p := 4) rfl (xob (ly_m L) (by decide)) (v := (0, m 292 14)) (xsl0 rfl (hM 292 14 (by decide))) ?_
  have iP_ := iP hI
  refine xk_if rfl (p := 7) rfl (fun c4_1 => ?_) (fun c4_1 => ?_)
  · replace c4_1 : ¬ (m 292 14 = 0) := c4_1
    refine xk_load rfl (p := 10) rfl rfl ?_
    refine xk_callp rfl (p := 13) rfl (by decide) rfl (Nat.le_of_ble_eq_true rfl) (Nat.le_of_ble_eq_true rfl) (xrv (ly_m L) (by decide)) (as := [(2, ((292 : Nat) : Int))]) (r := []) rfl (v := (0, sNx m (nN m))) (n_next L hM hI (by omega)) ?_
    have sNx_ := sNx_rng (m := m) (K := nN m)
    refine xk_store rfl (p := 14) rfl (by decide) (Nat.le_of_ble_eq_true rfl) (ls' := [(2, ((292 : Nat) : Int)), (0, sNx m (nN m)), (3, 0)]) rfl ?_
    refine xk_load rfl (p := 15) rfl rfl ?_
    refine xk_push rfl (p := 16) rfl ?_
    refine xk_icmp rfl (p := 19) rfl (fun c16_2 => ?_) (fun c16_2 => ?_)
    · replace c16_2 : sNx m (nN m) = (-1) := c16_2
      refine xk_load rfl (p := 38) rfl rfl ?_
      refine xk_push rfl (p := 39) rfl ?_
      refine xk_putf rfl (p := 42) rfl (xob (ly_m L) (by decide)) rfl (by decide) (by decide) (fun h => absurd h (by decide)) (by omega) ?_
      refine xk_push rfl (p := 43) rfl ?_
      refine xk_store rfl (p := 44) rfl (by decide) (Nat.le_of_ble_eq_true rfl) (ls' := [(2, ((292 : Nat) : Int)), (0, sNx m (nN m)), (0, 0)]) rfl ?_
      have lp3 : ∀ k : Nat, k ≤ nN m → ∀ (t1 : xD), (Mo t1 (tEnd (xupd m 292 14 0) k)) → (Md t t1) → xOk (d + 2) 156 44 [(2, ((292 : Nat) : Int)), (0, sNx m (nN m)), (0, ((k : Nat) : Int))] [] g t1 (yQ g t (some (0, (tRep m).1), (tRep m).2)) := by
        refine xk_up (nN m) (fun k hkk ih3  t1 hi1 hi2 => ?_)
        refine xk_load rfl (p := 45) rfl rfl ?_
        refine xk_load rfl (p := 46) rfl rfl ?_
        refine xk_getf rfl (p := 49) rfl (xob (ly_m L) (by decide)) (v := (0, ((nN m : Nat) : Int))) (xsl0 rfl ((hi1 292 0 (by decide)).trans (iNn hI).1)) ?_
        refine xk_icmp rfl (p := 52) rfl (fun c49_4 => ?_) (fun c49_4 => ?_)
        · replace c49_4 : ((nN m : Nat) : Int) ≤ ((k : Nat) : Int) := c49_4
          refine xk_push rfl (p := 105) rfl ?_
          refine xk_ret rfl (rfl) ?_
          exact yRet (by unfold tRep; rw [if_neg (by omega), if_pos (by omega)]) (by rw [show k = nN m by omega] at hi1; exact hi1) hi2
        · replace c49_4 : ¬ (((nN m : Nat) : Int) ≤ ((k : Nat) : Int)) := c49_4
          refine xk_load rfl (p := 53) rfl rfl ?_
          refine xk_getf rfl (p := 56) rfl (xob (ly_m L) (by decide)) (v := (2, ((297 : Nat) : Int))) (xsl2 rfl (ly_mp5 L)) ?_
          refine xk_load rfl (p := 57) rfl rfl ?_
          refine xk_load rfl (p := 58) rfl rfl ?_
          refine xk_load rfl (p := 59) rfl rfl ?_
          refine xk_callp rfl (p := 62) rfl (by decide) rfl (Nat.le_of_ble_eq_true rfl) (Nat.le_of_ble_eq_true rfl) (xrv (ly_m L) (by decide)) (as := [(2, ((292 : Nat) : Int)), (0, ((k : Nat) : Int))]) (r := [(0, ((k : Nat) : Int)), (2, ((297 : Nat) : Int))]) rfl (v := (0, sSto m k)) (xCall_eq (n_stored L hi1 (hI.run0.kp tEnd_kp (fun n hn => iJ hI hn)) (show k < 12 by omega)) tEnd_st) ?_
          refine xk_if rfl (p := 65) rfl (fun c62_5 => ?_) (fun c62_5 => ?_)
          · replace c62_5 : ¬ (sSto m k = 0) := c62_5
            refine xk_load rfl (p := 70) rfl rfl ?_
            refine xk_getf rfl (p := 73) rfl (xob (ly_m L) (by decide)) (v := (2, ((304 : Nat) : Int))) (xsl2 rfl (ly_mp16 L)) ?_
            refine xk_load rfl (p := 74) rfl rfl ?_
            refine xk_ald rfl (p := 75) rfl (v := (0, m 304 k)) ((xal0 (ly_ms16 L) (show k < 12 by omega)).trans (congrArg (fun z => some (0, z)) (hi1 304 k (by decide)))) ?_
            refine xk_ast rfl (p := 76) rfl (by decide) rfl (xsk (ly_ms5 L)) (xsn (ly_ms5 L) (show k < 12 by omega)) (by omega) ?_
            refine xk_load rfl (p := 77) rfl rfl ?_
            refine xk_getf rfl (p := 80) rfl (xob (ly_m L) (by decide)) (v := (2, ((296 : Nat) : Int))) (xsl2 rfl (ly_mp4 L)) ?_
            refine xk_load rfl (p := 81) rfl rfl ?_
            refine xk_ald rfl (p := 82) rfl (v := (0, m 296 k)) ((xal0 (ly_ms4 L) (show k < 12 by omega)).trans (congrArg (fun z => some (0, z)) (((xupd_ne (by omega)).trans ((hi1 296 k (by decide)).trans ((if_neg (by omega)).trans (if_neg (by omega)))))))) ?_
            refine xk_load rfl (p := 83) rfl rfl ?_
            refine xk_getf rfl (p := 86) rfl (xob (ly_m L) (by decide)) (v := (2, ((297 : Nat) : Int))) (xsl2 rfl (ly_mp5 L)) ?_
            refine xk_load rfl (p := 87) rfl rfl ?_
            refine xk_ald rfl (p := 88) rfl (v := (0, m 304 k)) ((xal0 (ly_ms5 L) (show k < 12 by omega)).trans (congrArg (fun z => some (0, z)) (xupd_eq))) ?_
            refine xk_icmp rfl (p := 91) rfl (fun c88_6 => ?_) (fun c88_6 => ?_)
            · replace c88_6 : ¬ (m 296 k = m 304 k) := c88_6
              refine xk_inc1 rfl (p := 101) rfl (n := k) rfl (by omega) (ls' := [(2, ((292 : Nat) : Int)), (0, sNx m (nN m)), (0, ((k + 1 : Nat) : Int))]) rfl ?_
              refine xk_goto rfl ?_
              exact ih3 (by omega)  (xupd t1 297 k (m 304 k)) (by exact hi1.en (by unfold tPk; first | exact (if_pos (by assumption)).symm | exact (if_neg (by assumption)).symm) (by assumption)) (by exact hi2.up (by decide))
            · replace c88_6 : m 296 k = m 304 k := Decidable.not_not.mp c88_6
              refine xk_load rfl (p := 92) rfl rfl ?_
              refine xk_getf rfl (p := 95) rfl (xob (ly_m L) (by decide)) (v := (2, ((296 : Nat) : Int))) (xsl2 rfl (ly_mp4 L)) ?_
              refine xk_load rfl (p := 96) rfl rfl ?_
              refine xk_push rfl (p := 97) rfl ?_
              refine xk_ast rfl (p := 98) rfl (by decide) rfl (xsk (ly_ms4 L)) (xsn (ly_ms4 L) (show k < 12 by omega)) (by omega) ?_
              refine xk_inc1 rfl (p := 101) rfl (n := k) rfl (by omega) (ls' := [(2, ((292 : Nat) : Int)), (0, sNx m (nN m)), (0, ((k + 1 : Nat) : Int))]) rfl ?_
              refine xk_goto rfl ?_
              exact ih3 (by omega)  (xupd (xupd t1 297 k (m 304 k)) 296 k 0) (by exact hi1.ez (by unfold tPk; first | exact (if_pos (by assumption)).symm | exact (if_neg (by assumption)).symm) (by assumption)) (by exact (hi2.up (by decide)).up (by decide))
          · replace c62_5 : sSto m k = 0 := Decidable.not_not.mp c62_5
            refine xk_push rfl (p := 66) rfl ?_
            refine xk_goto rfl ?_
            refine xk_ast rfl (p := 76) rfl (by decide) rfl (xsk (ly_ms5 L)) (xsn (ly_ms5 L) (show k < 12 by omega)) (by omega) ?_
            refine xk_load rfl (p := 77) rfl rfl ?_
            refine xk_getf rfl (p := 80) rfl (xob (ly_m L) (by decide)) (v := (2, ((296 : Nat) : Int))) (xsl2 rfl (ly_mp4 L)) ?_
            refine xk_load rfl (p := 81) rfl rfl ?_
            refine xk_ald rfl (p := 82) rfl (v := (0, m 296 k)) ((xal0 (ly_ms4 L) (show k < 12 by omega)).trans (congrArg (fun z => some (0, z)) (((xupd_ne (by omega)).trans ((hi1 296 k (by decide)).trans ((if_neg (by omega)).trans (if_neg (by omega)))))))) ?_
            refine xk_load rfl (p := 83) rfl rfl ?_
            refine xk_getf rfl (p := 86) rfl (xob (ly_m L) (by decide)) (v := (2, ((297 : Nat) : Int))) (xsl2 rfl (ly_mp5 L)) ?_
            refine xk_load rfl (p := 87) rfl rfl ?_
            refine xk_ald rfl (p := 88) rfl (v := (0, 0)) ((xal0 (ly_ms5 L) (show k < 12 by omega)).trans (congrArg (fun z => some (0, z)) (xupd_eq))) ?_
            refine xk_icmp rfl (p := 91) rfl (fun c88_7 => ?_) (fun c88_7 => ?_)
            · replace c88_7 : ¬ (m 296 k = 0) := c88_7
              refine xk_inc1 rfl (p := 101) rfl (n := k) rfl (by omega) (ls' := [(2, ((292 : Nat) : Int)), (0, sNx m (nN m)), (0, ((k + 1 : Nat) : Int))]) rfl ?_
              refine xk_goto rfl ?_
              exact ih3 (by omega)  (xupd t1 297 k 0) (by exact hi1.en (by unfold tPk; first | exact (if_pos (by assumption)).symm | exact (if_neg (by assumption)).symm) (by assumption)) (by exact hi2.up (by decide))
            · replace c88_7 : m 296 k = 0 := Decidable.not_not.mp c88_7
              refine xk_load rfl (p := 92) rfl rfl ?_
              refine xk_getf rfl (p := 95) rfl (xob (ly_m L) (by decide)) (v := (2, ((296 : Nat) : Int))) (xsl2 rfl (ly_mp4 L)) ?_
              refine xk_load rfl (p := 96) rfl rfl ?_
              refine xk_push rfl (p := 97) rfl ?_
              refine xk_ast rfl (p := 98) rfl (by decide) rfl (xsk (ly_ms4 L)) (xsn (ly_ms4 L) (show k < 12 by omega)) (by omega) ?_
              refine xk_inc1 rfl (p := 101) rfl (n := k) rfl (by omega) (ls' := [(2, ((292 : Nat) : Int)), (0, sNx m (nN m)), (0, ((k + 1 : Nat) : Int))]) rfl ?_
              refine xk_goto rfl ?_
              exact ih3 (by omega)  (xupd (xupd t1 297 k 0) 296 k 0) (by exact hi1.ez (by unfold tPk; first | exact (if_pos (by assumption)).symm | exact (if_neg (by assumption)).symm) (by assumption)) (by exact (hi2.up (by decide)).up (by decide))
      exact lp3 0 (by omega)  (xupd t 292 14 0) (by rw [tEnd_0]; exact hM.up) (by exact Md.rf.up (by decide))
    · replace c16_2 : ¬ (sNx m (nN m) = (-1)) := c16_2
      refine xk_load rfl (p := 20) rfl rfl ?_
      refine xk_load rfl (p := 21) rfl rfl ?_
      refine xk_putf rfl (p := 24) rfl (xob (ly_m L) (by decide)) rfl (by decide) (by decide) (fun h => absurd h (by decide)) (by omega) ?_
      refine xk_load rfl (p := 25) rfl rfl ?_
      refine xk_getf rfl (p := 28) rfl (xob (ly_m L) (by decide)) (v := (2, ((304 : Nat) : Int))) (xsl2 rfl (ly_mp16 L)) ?_
      refine xk_load rfl (p := 29) rfl rfl ?_
      refine xk_load rfl (p := 30) rfl rfl ?_
      refine xk_load rfl (p := 31) rfl rfl ?_
      refine xk_stk (show _ = (0, (((sNx m (nN m)).toNat : Nat) : Int)) :: [(2, ((292 : Nat) : Int)), (0, sNx m (nN m)), (2, ((304 : Nat) : Int))] from congrArg (fun z => ((0, z) : xV) :: [(2, ((292 : Nat) : Int)), (0, sNx m (nN m)), (2, ((304 : Nat) : Int))]) (Int.toNat_of_nonneg (show 0 ≤ sNx m (nN m) by omega)).symm) ?_
      refine xk_callp rfl (p := 34) rfl (by decide) rfl (Nat.le_of_ble_eq_true rfl) (Nat.le_of_ble_eq_true rfl) (xrv (ly_m L) (by decide)) (as := [(2, ((292 : Nat) : Int)), (0, (((sNx m (nN m)).toNat : Nat) : Int))]) (r := [(0, sNx m (nN m)), (2, ((304 : Nat) : Int))]) rfl (v := (0, sSto m ((sNx m (nN m)).toNat))) (xCall_eq (n_stored (m := xupd m 292 15 (sNx m (nN m))) L (hM.up) (Inv.rea hI (by omega) (by omega)) (show (sNx m (nN m)).toNat < 12 by omega)) rfl) ?_
      refine xk_asti rfl (p := 35) rfl (show 0 ≤ sNx m (nN m) by omega) (by decide) rfl (xsk (ly_ms16 L)) (xsn (ly_ms16 L) (show (sNx m (nN m)).toNat < 12 by omega)) (by omega) ?_
      refine xk_push rfl (p := 36) rfl ?_
      refine xk_ret rfl (rfl) ?_
      exact yRet (by unfold tRep; rw [if_neg (by omega), if_neg (by omega)]) ((hM.up).up) (((Md.rf).up (by decide)).up (by decide))
  · replace c4_1 : m 292 14 = 0 := Decidable.not_not.mp c4_1
    refine xk_push rfl (p := 8) rfl ?_
    refine xk_ret rfl (rfl) ?_
    exact yRet (by unfold tRep; rw [if_pos (by omega)]) hM Md.rf

theorem n_goes {d : Nat} {g : xG} {t m : xD} {x : Int} (L : xLay g) (hM : Mo t m) (hI : Inv m) : xCall (d + 4) 158 [(2, ((292 : Nat) : Int)), (0, x)] g t (yQ g t (some (0, (tGo x m).1), (tGo x m).2)) := by
  show xOk (d + 4) 158 0 [(2, ((292 : Nat) : Int)), (0, x)] [] g t _
  refine xk_load rfl (p := 1) rfl rfl ?_
  refine xk_if rfl (p := 4) rfl (fun c1_1 => ?_) (fun c1_1 => ?_)
  · replace c1_1 : ¬ (x = 0) := c1_1
    refine xk_load rfl (p := 12) rfl rfl ?_
    refine xk_call rfl (p := 15) rfl (by decide) rfl (Nat.le_of_ble_eq_true rfl) (Nat.le_of_ble_eq_true rfl) (xrv (ly_m L) (by decide)) (as := [(2, ((292 : Nat) : Int))]) (r := []) rfl (n_repacks L hM hI) ?_
    rintro _ g t2 ⟨rfl, rfl, hM2, hD2⟩
    refine xk_ret rfl (xret_b rfl (by first | exact tCom_b | exact tRep_b)) ?_
    exact yRet (by unfold tGo; first | rw [if_pos (by assumption)] | rw [if_neg (by assumption)]) hM2 hD2
  · replace c1_1 : x = 0 := Decidable.not_not.mp c1_1
    refine xk_load rfl (p := 5) rfl rfl ?_
    refine xk_call rfl (p := 8) rfl (by decide) rfl (Nat.le_of_ble_eq_true rfl) (Nat.le_of_ble_eq_true rfl) (xrv (ly_m L) (by decide)) (as := [(2, ((292 : Nat) : Int))]) (r := []) rfl (n_commits L hM hI) ?_
    rintro _ g t2 ⟨rfl, rfl, hM2, hD2⟩
    refine xk_goto rfl ?_
    refine xk_ret rfl (xret_b rfl (by first | exact tCom_b | exact tRep_b)) ?_
    exact yRet (by unfold tGo; first | rw [if_pos (by assumption)] | rw [if_neg (by assumption)]) hM2 hD2

theorem n_steps {d : Nat} {g : xG} {t m : xD} {x y : Int} (L : xLay g) (hM : Mo t m) (hI : Inv m) (h0 : 0 ≤ y) (h1 : y ≤ 20) : xCall (d + 5) 159 [(2, ((292 : Nat) : Int)), (0, x), (0, y)] g t (yQ g t (some (0, (((tSt x y.toNat m).1 : Nat) : Int)), (tSt x y.toNat m).2)) := by
  show xOk (d + 5) 159 0 [(2, ((292 : Nat) : Int)), (0, x), (0, y), (3, 0)] [] g t _
  refine xk_push rfl (p := 1) rfl ?_
  refine xk_store rfl (p := 2) rfl (by decide) (Nat.le_of_ble_eq_true rfl) (ls' := [(2, ((292 : Nat) : Int)), (0, x), (0, y), (0, 0)]) rfl ?_
  have lp1 : ∀ k : Nat, k ≤ y.toNat → ∀ (m1 : xD) (t1 : xD), (Mo t1 m1) → (Inv m1) → (Md t t1) → (tSt x y.toNat m = (k + (tSt x (y.toNat - k) m1).1, (tSt x (y.toNat - k) m1).2)) → xOk (d + 5) 159 2 [(2, ((292 : Nat) : Int)), (0, x), (0, y), (0, ((k : Nat) : Int))] [] g t1 (yQ g t (some (0, (((tSt x y.toNat m).1 : Nat) : Int)), (tSt x y.toNat m).2)) := by
    refine xk_up (y.toNat) (fun k hkk ih1  m1 t1 hi1 hi2 hi3 hi4 => ?_)
    refine xk_load rfl (p := 3) rfl rfl ?_
    refine xk_load rfl (p := 4) rfl rfl ?_
    refine xk_icmp rfl (p := 7) rfl (fun c4_2 => ?_) (fun c4_2 => ?_)
    · replace c4_2 : y ≤ ((k : Nat) : Int) := c4_2
      refine xk_load rfl (p := 22) rfl rfl ?_
      refine xk_ret rfl (rfl) ?_
      exact yRet (by rw [hi4, show y.toNat - k = 0 by omega]; rfl) hi1 hi3
    · replace c4_2 : ¬ (y ≤ ((k : Nat) : Int)) := c4_2
      refine xk_load rfl (p := 8) rfl rfl ?_
      refine xk_load rfl (p := 9) rfl rfl ?_
      refine xk_call rfl (p := 12) rfl (by decide) rfl (Nat.le_of_ble_eq_true rfl) (Nat.le_of_ble_eq_true rfl) (xrv (ly_m L) (by decide)) (as := [(2, ((292 : Nat) : Int)), (0, x)]) (r := []) rfl (n_goes L hi1 hi2) ?_
      rintro _ g t2 ⟨rfl, rfl, hM2, hD2⟩
      refine xk_if rfl (p := 15) rfl (fun c12_3 => ?_) (fun c12_3 => ?_)
      · replace c12_3 : (tGo x m1).1 = 0 := c12_3
        refine xk_load rfl (p := 22) rfl rfl ?_
        refine xk_ret rfl (rfl) ?_
        exact yRet (by rw [hi4, show y.toNat - k = (y.toNat - (k + 1)) + 1 by omega, tSt_s0 (by assumption)]; rfl) (by rw [← tGo_0 (m := m1) (by assumption)]; exact hM2) (hi3.tr hD2)
      · replace c12_3 : ¬ ((tGo x m1).1 = 0) := c12_3
        refine xk_inc1 rfl (p := 18) rfl (n := k) rfl (by omega) (ls' := [(2, ((292 : Nat) : Int)), (0, x), (0, y), (0, ((k + 1 : Nat) : Int))]) rfl ?_
        refine xk_goto rfl ?_
        exact ih1 (by omega) ((tGo x m1).2) t2 (by exact hM2) (by exact hi2.go) (by exact hi3.tr hD2) (by rw [hi4, show y.toNat - k = (y.toNat - (k + 1)) + 1 by omega, tSt_s1 (by assumption)]; exact Prod.ext (by show k + (_ + 1) = k + 1 + _; omega) rfl)
  exact lp1 0 (by omega) m t (by exact hM) (by exact hI) (by exact Md.rf) (by exact Prod.ext (Nat.zero_add _).symm rfl)

def y_step (m : xD) (x y : Int) : Option xV × xD := if 0 ≤ x ∧ x ≤ 1 then (if 0 ≤ y ∧ y ≤ 20 then (some (0, (((tSt x y.toNat m).1 : Nat) : Int)), (tSt x y.toNat m).2) else (some (0, -2), m)) else (some (0, -1), m)
theorem n_step {d : Nat} {g : xG} {t m : xD} {x y : Int} (L : xLay g) (hM : Mo t m) (hI : Inv m) : xCall (d + 6) 160 [(2, ((292 : Nat) : Int)), (0, x), (0, y)] g t (yQ g t (y_step m x y)) := by
  show xOk (d + 6) 160 0 [(2, ((292 : Nat) : Int)), (0, x), (0, y)] [] g t _
  refine xk_load rfl (p := 1) rfl rfl ?_
  refine xk_push rfl (p := 2) rfl ?_
  refine xk_push rfl (p := 3) rfl ?_
  refine xk_callp rfl (p := 6) rfl (by decide) rfl (Nat.le_of_ble_eq_true rfl) (Nat.le_of_ble_eq_true rfl) (rfl) (as := [(0, x), (0, 0), (0, 1)]) (r := []) rfl (v := (0, (if 0 ≤ x ∧ x ≤ 1 then (1 : Int) else 0))) (n_within) ?_
  refine xk_if rfl (p := 9) rfl (fun c6_1 => ?_) (fun c6_1 => ?_)
  · replace c6_1 : 0 ≤ x ∧ x ≤ 1 := xb_n0 c6_1
    refine xk_load rfl (p := 12) rfl rfl ?_
    refine xk_push rfl (p := 13) rfl ?_
    refine xk_push rfl (p := 15) rfl ?_
    refine xk_callp rfl (p := 18) rfl (by decide) rfl (Nat.le_of_ble_eq_true rfl) (Nat.le_of_ble_eq_true rfl) (rfl) (as := [(0, y), (0, 0), (0, 20)]) (r := []) rfl (v := (0, (if 0 ≤ y ∧ y ≤ 20 then (1 : Int) else 0))) (n_within) ?_
    refine xk_if rfl (p := 21) rfl (fun c18_2 => ?_) (fun c18_2 => ?_)
    · replace c18_2 : ¬ (0 ≤ y ∧ y ≤ 20) := xb_e0 c18_2
      refine xk_push rfl (p := 32) rfl ?_
      refine xk_ret rfl (rfl) ?_
      exact yRet ((if_pos c6_1).trans ((if_neg c18_2))) (hM) (Md.rf)
    · replace c18_2 : 0 ≤ y ∧ y ≤ 20 := xb_n0 c18_2
      refine xk_load rfl (p := 22) rfl rfl ?_
      refine xk_load rfl (p := 23) rfl rfl ?_
      refine xk_load rfl (p := 24) rfl rfl ?_
      refine xk_call rfl (p := 27) rfl (by decide) rfl (Nat.le_of_ble_eq_true rfl) (Nat.le_of_ble_eq_true rfl) (xrv (ly_m L) (by decide)) (as := [(2, ((292 : Nat) : Int)), (0, x), (0, y)]) (r := []) rfl (n_steps L hM hI (by omega) (by omega)) ?_
      rintro _ g t2 ⟨rfl, rfl, hM2, hD2⟩
      refine xk_goto rfl ?_
      refine xk_ret rfl (rfl) ?_
      exact yRet ((if_pos c6_1).trans ((if_pos c18_2))) (hM2) (hD2)
  · replace c6_1 : ¬ (0 ≤ x ∧ x ≤ 1) := xb_e1 c6_1
    refine xk_push rfl (p := 10) rfl ?_
    refine xk_ret rfl (rfl) ?_
    exact yRet ((if_neg c6_1)) (hM) (Md.rf)
