/-! THE CLASS: REPACK, AT, EXPIRE -/
theorem tZw_n {m : xD} {K a k : Nat} (h : ¬ (a = 304 ∧ k < K)) : tZw m K a k = m a k := if_neg h
/-- a repack begins -/
theorem Rep.bg {t m : xD} {s : Nat} (h : Rep t s m) (hI : Inv m) : Rep (xupd (xupd t (5 + 89 * s) 10 1) (5 + 89 * s) 11 0) s (xupd (xupd m 292 14 1) 292 15 (-1)) := by
  have hN := (iNn hI).2
  have fr : ∀ a k, ¬ (a = 5 + 89 * s ∧ (k = 10 ∨ k = 11)) → xupd (xupd t (5 + 89 * s) 10 1) (5 + 89 * s) 11 0 a k = t a k := fun a k hh => (xupd_ne (by omega)).trans (xupd_ne (by omega))
  refine ⟨⟨(fr _ 6 (by omega)).trans h.1.1, (fr _ 7 (by omega)).trans h.1.2.1, (fr _ 8 (by omega)).trans h.1.2.2.1, (fr _ 9 (by omega)).trans h.1.2.2.2.1, (xupd_ne (by omega)).trans xupd_eq⟩, fun hh => xupd_eq.trans (Eq.symm (if_pos xupd_eq)), R3.fr (m := xupd (xupd m 292 14 1) 292 15 (-1)) h.2.2.1 (fun n k hn => fr _ _ (by omega)), R4.fr (m := xupd (xupd m 292 14 1) 292 15 (-1)) h.2.2.2.1 (fun n j k hn hj => fr _ _ (by omega)), R5.fr (m := xupd (xupd m 292 14 1) 292 15 (-1)) h.2.2.2.2.1 (fun d j k hd hj => fr _ _ (by omega)), R6.fr (m := xupd (xupd m 292 14 1) 292 15 (-1)) h.2.2.2.2.2.1 (fun j k hj => fr _ _ (by omega)), R7.fr (m := xupd (xupd m 292 14 1) 292 15 (-1)) h.2.2.2.2.2.2.1 (fun j k hj => fr _ _ (by omega)), R8.fr (m := xupd (xupd m 292 14 1) 292 15 (-1)) h.2.2.2.2.2.2.2 (fun j k hj => fr _ _ (by omega))⟩
/-- what of m counts but what a repack wrote -/
def zv (m : xD) : xD := fun a k => if a = 304 then 0 else m a k
theorem zv_zw {m : xD} {j k : Nat} : zv (tZw m j) = zv (tZw m k) := by
  funext a i
  unfold zv
  by_cases c : a = 304
  · rw [if_pos c, if_pos c]
  · rw [if_neg c, if_neg c, tZw_n (by omega), tZw_n (by omega)]
theorem R1_zv {t m : xD} {s : Nat} : R1 t s (zv m) = R1 t s m := rfl
theorem R2_zv {t m : xD} {s : Nat} : R2 t s (zv m) = R2 t s m := rfl
theorem R4_zv {t m : xD} {s : Nat} : R4 t s (zv m) = R4 t s m := rfl
theorem R5_zv {t m : xD} {s : Nat} : R5 t s (zv m) = R5 t s m := rfl
theorem R6_zv {t m : xD} {s : Nat} : R6 t s (zv m) = R6 t s m := rfl
theorem R7_zv {t m : xD} {s : Nat} : R7 t s (zv m) = R7 t s m := rfl
theorem R8_zv {t m : xD} {s : Nat} : R8 t s (zv m) = R8 t s m := rfl
theorem nvk_zv {m : xD} {n : Nat} : nvk (zv m) n = nvk m n := rfl
theorem Rep.zc {t u m : xD} {s j k : Nat} (h : Rep t s (tZw m j)) (hI : Inv m) (ht : ∀ a i, ¬ (18 + 89 * s ≤ a ∧ a < 78 + 89 * s ∧ i = 7) → u a i = t a i) (hw : ∀ q, q < nN m → u (18 + 89 * s + 5 * q) 7 = tZw m k 304 q) : Rep u s (tZw m k) := by
  have hN := (iNn hI).2
  have e : zv (tZw m j) = zv (tZw m k) := zv_zw
  refine ⟨?_, ?_, fun q hq => ?_, ?_, ?_, ?_, ?_, ?_⟩
  · have h1 := h.1.fr (u := u) (fun i => ht _ i (by omega))
    rw [← R1_zv, ← e, R1_zv]; exact h1
  · have h1 := h.2.1.fr (u := u) (fun i => ht _ i (by omega))
    rw [← R2_zv, ← e, R2_zv]; exact h1
  · have hq : q < nN m := by
      have e0 : nN (tZw m k) = nN m := by unfold nN; rw [tZw_n (by omega)]
      omega
    have h3 := h.2.2.1 q (by
      have e0 : nN (tZw m j) = nN m := by unfold nN; rw [tZw_n (by omega)]
      omega)
    have ek : nvk (tZw m k) q = nvk (tZw m j) q := by rw [← nvk_zv, ← e, nvk_zv]
    have ek1 : kK (tZw m k) q = kK (tZw m j) q := congrArg Prod.fst ek
    have ek2 : sKin (tZw m k) q = sKin (tZw m j) q := congrArg Prod.snd ek
    have z : ∀ a, a ≠ 304 → tZw m k a q = tZw m j a q := fun a ha => (tZw_n (by omega)).trans (tZw_n (by omega)).symm
    rw [ek1, ek2, z 294 (by decide), z 295 (by decide), z 296 (by decide), z 297 (by decide)]
    exact ⟨(ht _ 1 (by omega)).trans h3.1, (ht _ 2 (by omega)).trans h3.2.1, (ht _ 3 (by omega)).trans h3.2.2.1, (ht _ 4 (by omega)).trans h3.2.2.2.1, (ht _ 5 (by omega)).trans h3.2.2.2.2.1, (ht _ 6 (by omega)).trans h3.2.2.2.2.2.1, hw q hq⟩
  · rw [← R4_zv, ← e, R4_zv]
    intro n hn
    have hn2 : n < nN m := by
      have e0 : nN (tZw m j) = nN m := by unfold nN; rw [tZw_n (by omega)]
      omega
    have h4 := h.2.2.2.1 n hn
    exact ⟨(ht _ 3 (by omega)).trans h4.1, fun r hr => by
      have q := h4.2 r hr
      have jn := iJ hI hn2
      rw [tZw_n (by omega)] at hr
      exact ⟨(ht _ r (by omega)).trans q.1, (ht _ r (by omega)).trans q.2.1, (ht _ r (by omega)).trans q.2.2⟩⟩
  · have h1 := h.2.2.2.2.1.fr (u := u) (fun d i r hd hi => ht _ r (by omega))
    rw [← R5_zv, ← e, R5_zv]; exact h1
  · have h1 := h.2.2.2.2.2.1.fr (u := u) (fun i r hi => ht _ r (by omega))
    rw [← R6_zv, ← e, R6_zv]; exact h1
  · have h1 := h.2.2.2.2.2.2.1.fr (u := u) (fun i r hi => ht _ r (by omega))
    rw [← R7_zv, ← e, R7_zv]; exact h1
  · have h1 := h.2.2.2.2.2.2.2.fr (u := u) (fun i r hi => ht _ r (by omega))
    rw [← R8_zv, ← e, R8_zv]; exact h1
theorem tZw_N {m : xD} {k : Nat} : nN (tZw m k) = nN m := by
  unfold nN
  rw [tZw_n (by omega)]
theorem Rep.zw {t m : xD} {s k : Nat} (h : Rep t s (tZw m k)) (hI : Inv m) (hk : k < nN m) : Rep (xupd t (18 + 89 * s + 5 * k) 7 0) s (tZw m (k + 1)) := by
  have hN := (iNn hI).2
  refine h.zc hI (fun a i hh => xupd_ne (by omega)) (fun q hq => ?_)
  by_cases c : q = k
  · subst c
    exact xupd_eq.trans (Eq.symm (if_pos ⟨rfl, by omega⟩))
  · have h3 := (h.2.2.1 q (by rw [tZw_N]; exact hq)).2.2.2.2.2.2
    refine (xupd_ne (by omega)).trans (h3.trans ?_)
    unfold tZw
    by_cases c2 : q < k
    · rw [if_pos (show 304 = 304 ∧ q < k from ⟨rfl, c2⟩), if_pos (show 304 = 304 ∧ q < k + 1 from ⟨rfl, by omega⟩)]
    · rw [if_neg (show ¬ (304 = 304 ∧ q < k) by omega), if_neg (show ¬ (304 = 304 ∧ q < k + 1) by omega)]
/-- only names that are there count -/
theorem Rep.zN {t m : xD} {s : Nat} (h : Rep t s (tZw m (nN m))) (hI : Inv m) : Rep t s (tZw m 12) := by
  have hN := (iNn hI).2
  refine h.zc hI (fun a i hh => rfl) (fun q hq => ?_)
  have h3 := (h.2.2.1 q (by rw [tZw_N]; exact hq)).2.2.2.2.2.2
  refine h3.trans ?_
  exact (if_pos ⟨rfl, hq⟩).trans (Eq.symm (if_pos ⟨rfl, by omega⟩))
theorem Inv.bg {m : xD} (h : Inv m) : Inv (xupd (xupd m 292 14 1) 292 15 (-1)) := by
  have := h.zw (K := 0)
  rw [tZw_0] at this
  exact this
theorem c_beginRepack {d : Nat} {g : xG} {t m : xD} {s : Nat} (L : xLay g) (hs : s < 3) (hI : Inv m) (hR : Rep t s m) : xCall (d) 54 [(2, (((5 + 89 * s) : Nat) : Int))] g t (fun r g1 t1 => g1 = g ∧ r = none ∧ Rep t1 s (tRs m) ∧ Fr s t t1) := by
  show xOk (d) 54 0 [(2, (((5 + 89 * s) : Nat) : Int)), (3, 0)] [] g t _
  have iNn_ := iNn hI
  refine xk_load rfl (p := 1) rfl rfl ?_
  refine xk_push rfl (p := 2) rfl ?_
  refine xk_putf rfl (p := 5) rfl (xob (ly_st L hs) (by decide)) rfl (by decide) (by decide) (fun _ => by simp) (by omega) ?_
  refine xk_load rfl (p := 6) rfl rfl ?_
  refine xk_push rfl (p := 7) rfl ?_
  refine xk_putf rfl (p := 10) rfl (xob (ly_st L hs) (by decide)) rfl (by decide) (by decide) (fun h => absurd h (by decide)) (by omega) ?_
  refine xk_push rfl (p := 11) rfl ?_
  refine xk_store rfl (p := 12) rfl (by decide) (Nat.le_of_ble_eq_true rfl) (ls' := [(2, (((5 + 89 * s) : Nat) : Int)), (0, 0)]) rfl ?_
  have lp1 : ∀ k : Nat, k ≤ nN m → ∀ (u1 : xD), (Rep u1 s (tZw (xupd (xupd m 292 14 1) 292 15 (-1)) k)) → (Fr s t u1) → xOk (d) 54 12 [(2, (((5 + 89 * s) : Nat) : Int)), (0, ((k : Nat) : Int))] [] g u1 (fun r g1 t1 => g1 = g ∧ r = none ∧ Rep t1 s (tRs m) ∧ Fr s t t1) := by
    refine xk_up (nN m) (fun k hkk ih1  u1 h1_1 h1_2 => ?_)
    refine xk_load rfl (p := 13) rfl rfl ?_
    refine xk_load rfl (p := 14) rfl rfl ?_
    refine xk_getf rfl (p := 17) rfl (xob (ly_st L hs) (by decide)) (v := (0, ((nN m : Nat) : Int))) (xsl0 rfl ((rN h1_1).trans (iNn hI).1)) ?_
    refine xk_icmp rfl (p := 20) rfl (fun c17_2 => ?_) (fun c17_2 => ?_)
    · replace c17_2 : ((nN m : Nat) : Int) ≤ ((k : Nat) : Int) := c17_2
      refine xk_ret rfl (rfl) ?_
      rw [show k = nN m by omega] at h1_1
      exact ⟨rfl, rfl, Rep.zN h1_1 hI.bg, h1_2⟩
    · replace c17_2 : ¬ (((nN m : Nat) : Int) ≤ ((k : Nat) : Int)) := c17_2
      refine xk_load rfl (p := 21) rfl rfl ?_
      refine xk_getf rfl (p := 24) rfl (xob (ly_st L hs) (by decide)) (v := (2, (((6 + 89 * s) : Nat) : Int))) (xsl2 rfl (ly_s0 L hs)) ?_
      refine xk_load rfl (p := 25) rfl rfl ?_
      refine xk_ald rfl (p := 26) rfl (v := (2, (((18 + 89 * s + 5 * k) : Nat) : Int))) (xal2 (ly_sn L hs) (by decide) (show k < 12 by omega) (ly_ne L hs (show k < 12 by omega))) ?_
      refine xk_push rfl (p := 27) rfl ?_
      refine xk_putf rfl (p := 30) rfl (xob ((ly_nm L hs (show k < 12 by omega)).1) (by decide)) rfl (by decide) (by decide) (fun h => absurd h (by decide)) (by omega) ?_
      refine xk_inc1 rfl (p := 33) rfl (n := k) rfl (by omega) (ls' := [(2, (((5 + 89 * s) : Nat) : Int)), (0, ((k + 1 : Nat) : Int))]) rfl ?_
      refine xk_goto rfl ?_
      exact ih1 (by omega)  (xupd u1 (18 + 89 * s + 5 * k) 7 0) (by exact h1_1.zw hI.bg (show k < nN m by omega)) (by exact h1_2.up (by omega) (by omega))
  exact lp1 0 (by omega)  (xupd (xupd t (5 + 89 * s) 10 1) (5 + 89 * s) 11 0) (by rw [tZw_0]; exact hR.bg hI) (by exact (Fr.rf.up (by omega) (by omega)).up (by omega) (by omega))

theorem tRs_n {m : xD} {a k : Nat} (h : a ≠ 304) (h2 : a ≠ 292) : tRs m a k = m a k := (tZw_n (by omega)).trans ((xupd_ne (by omega)).trans (xupd_ne (by omega)))
theorem tRs_N {m : xD} : nN (tRs m) = nN m := by
  unfold nN tRs
  rw [tZw_n (by omega), xupd_ne (by omega), xupd_ne (by omega)]
theorem tRs_s {m : xD} : sSto (tRs m) = sSto m := by
  funext i
  unfold sSto
  rw [tRs_n (by decide) (by decide), tRs_n (by decide) (by decide)]
theorem sBc_std {m : xD} (hI : Inv m) : sBc (xbs (fun i => decide (¬ sSto m i = 0)) (nN m)) = sStd m := by
  have hN := (iNn hI).2
  unfold sStd
  generalize nN m = K at hN
  have key : ∀ n, n ≤ 12 → xcnt (fun d => (xbs (fun i => decide (¬ sSto m i = 0)) K).testBit d) n = xcnt (fun i => decide (¬ sSto m i = 0)) (min n K) := by
    intro n
    induction n with
    | zero => intro _; rw [Nat.zero_min]; exact (show (0 : Nat) = 0 from rfl)
    | succ n ih =>
      intro hn
      have e := ih (by omega)
      by_cases c : (xbs (fun i => decide (¬ sSto m i = 0)) K).testBit n = true
      · have b := xbs_bit.mp c
        rw [← xcnt_in (p := fun d => (xbs (fun i => decide (¬ sSto m i = 0)) K).testBit d) rfl c, e, Nat.min_eq_left (by omega : n ≤ K), Nat.min_eq_left (by omega : n + 1 ≤ K)]
        exact xcnt_in rfl b.2
      · rw [← xcnt_out (p := fun d => (xbs (fun i => decide (¬ sSto m i = 0)) K).testBit d) rfl c, e]
        by_cases c2 : n < K
        · rw [Nat.min_eq_left (by omega : n ≤ K), Nat.min_eq_left (by omega : n + 1 ≤ K)]
          exact xcnt_out rfl (fun h => c (xbs_bit.mpr ⟨c2, h⟩))
        · rw [Nat.min_eq_right (by omega : K ≤ n), Nat.min_eq_right (by omega : K ≤ n + 1)]
  have := key 12 (Nat.le_refl 12)
  rw [Nat.min_eq_right hN] at this
  exact this
theorem c_repack {d : Nat} {g : xG} {t m : xD} (L : xLay g) (hI : Inv m) (hR : Rep t 0 m) : xCall (d + 2) 82 [(2, ((2 : Nat) : Int))] g t (zQ 0 g t (y_repack m)) := by
  show xOk (d + 2) 82 0 [(2, ((2 : Nat) : Int))] [] g t _
  have iNn_ := iNn hI
  have hs : 0 < 3 := by decide
  have hs1 : 1 < 3 := by decide
  have hs2 : 2 < 3 := by decide
  have iP_ := iP hI
  refine xk_load rfl (p := 1) rfl rfl ?_
  refine xk_getf rfl (p := 4) rfl (xob (ly_x L) (by decide)) (v := (2, (((5 + 89 * 0) : Nat) : Int))) (xsl2 rfl (ly_x1 L)) ?_
  refine xk_getf rfl (p := 7) rfl (xob (ly_st L hs) (by decide)) (v := (0, m 292 14)) (xsl0 rfl (rRun hR)) ?_
  have iP_ := iP hI
  refine xk_if rfl (p := 10) rfl (fun c7_1 => ?_) (fun c7_1 => ?_)
  · replace c7_1 : m 292 14 = 0 := c7_1
    refine xk_load rfl (p := 14) rfl rfl ?_
    refine xk_getf rfl (p := 17) rfl (xob (ly_x L) (by decide)) (v := (2, (((5 + 89 * 0) : Nat) : Int))) (xsl2 rfl (ly_x1 L)) ?_
    refine xk_call rfl (p := 20) rfl (by decide) rfl (Nat.le_of_ble_eq_true rfl) (Nat.le_of_ble_eq_true rfl) (xrv (ly_st L hs) (by decide)) (as := [(2, (((5 + 89 * 0) : Nat) : Int))]) (r := []) rfl (c_beginRepack L hs hI hR) ?_
    rintro _ g v6 ⟨rfl, rfl, hV6, hF6⟩
    refine xk_load rfl (p := 21) rfl rfl ?_
    refine xk_getf rfl (p := 24) rfl (xob (ly_x L) (by decide)) (v := (2, (((5 + 89 * 0) : Nat) : Int))) (xsl2 rfl (ly_x1 L)) ?_
    refine xk_callp rfl (p := 27) rfl (by decide) rfl (Nat.le_of_ble_eq_true rfl) (Nat.le_of_ble_eq_true rfl) (xrv (ly_st L hs) (by decide)) (as := [(2, (((5 + 89 * 0) : Nat) : Int))]) (r := []) rfl (v := (0, ((xbs (fun i => decide (¬ sSto m i = 0)) (nN m) : Nat) : Int))) (xCall_eq (c_namesStored (m := tRs m) L hs hI.zw hV6) (by rw [tRs_s, tRs_N])) ?_
    have xb_ : xbs (fun i => decide (¬ sSto m i = 0)) (nN m) < 4096 := xbs_lt (iNn hI).2
    refine xk_callp rfl (p := 30) rfl (by decide) rfl (Nat.le_of_ble_eq_true rfl) (Nat.le_of_ble_eq_true rfl) (rfl) (as := [(0, ((xbs (fun i => decide (¬ sSto m i = 0)) (nN m) : Nat) : Int))]) (r := []) rfl (v := (0, ((sBc (xbs (fun i => decide (¬ sSto m i = 0)) (nN m)) : Nat) : Int))) (n_bitCount (xbs_lt (by omega))) ?_
    refine xk_ret rfl (rfl) ?_
    exact zRet ((if_neg (by omega)).trans (by rw [sBc_std hI])) hV6 hF6
  · replace c7_1 : ¬ (m 292 14 = 0) := c7_1
    refine xk_push rfl (p := 12) rfl ?_
    refine xk_ret rfl (rfl) ?_
    exact zRet (if_pos (by omega)) hR Fr.rf
