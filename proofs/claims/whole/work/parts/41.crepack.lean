/-! THE CLASS: THE REPACK, STEPS, BREAKDOWN -/
theorem xcnt_0 {p : Nat → Bool} : ∀ K, xcnt p K = 0 ↔ ∀ i, i < K → ¬ p i = true
  | 0 => ⟨fun _ i hi => absurd hi (Nat.not_lt_zero i), fun _ => rfl⟩
  | K + 1 => by
    have ih := xcnt_0 (p := p) K
    show xcnt p K + (if p K = true then 1 else 0) = 0 ↔ _
    constructor
    · intro h i hi
      by_cases c : p K = true
      · rw [if_pos c] at h
        omega
      · by_cases e : i = K
        · rw [e]; exact c
        · exact ih.mp (by omega) i (by omega)
    · intro h
      rw [if_neg (h K (by omega)), ih.mpr (fun i hi => h i (by omega))]
/-- the key that a repack reached last -/
def sRk (m : xD) : Int := if m 292 15 = -1 then 0 else kK m (m 292 15).toNat
theorem nx_eq {m : xD} (hI : Inv m) (hr : m 292 14 = 1) : sNum m (xbs (fun i => decide (¬ sSto m i = 0)) (nN m) &&& xbs (fun i => decide (sRk m < kK m i)) (nN m)) 0 = if sNx m (nN m) = -1 then -5 else sNx m (nN m) := by
  have hp := iP hI
  have hN := iNn hI
  have hz : ∀ n, n < nN m → ((xbs (fun i => decide (¬ sSto m i = 0)) (nN m) &&& xbs (fun i => decide (sRk m < kK m i)) (nN m)).testBit n = true ↔ bNx m n = true) := by
    intro n hn
    rw [Nat.testBit_and, Bool.and_eq_true, xbs_bit, xbs_bit, decide_eq_true_iff, decide_eq_true_iff, bNx_iff]
    unfold pNx sRk
    have kp := kK_pos hI hn
    by_cases c : m 292 15 = -1
    · rw [if_pos c]
      exact ⟨fun h => ⟨h.1.2, .inl c⟩, fun h => ⟨⟨hn, h.1⟩, hn, kp⟩⟩
    · rw [if_neg c]
      exact ⟨fun h => ⟨h.1.2, .inr h.2.2⟩, fun h => ⟨⟨hn, h.1⟩, hn, h.2.resolve_left c⟩⟩
  generalize xbs (fun i => decide (¬ sSto m i = 0)) (nN m) &&& xbs (fun i => decide (sRk m < kK m i)) (nN m) = Z at hz
  unfold sNum
  rcases sNx_ok (m := m) (nN m) with ⟨h1, h2⟩ | ⟨h1, h2, h3, h4⟩
  · rw [if_pos h1]
    exact (xiyf0 (P := fun n => Z.testBit n = true ∧ ((xcnt (fun i => decide (Z.testBit i = true ∧ kK m i < kK m n)) (nN m) : Nat) : Int) = 0) (Nat.le_refl _) (fun i hi h => h2 i hi ((hz i hi).mp h.1))).symm
  · rw [if_neg (by omega)]
    have hx : (sNx m (nN m)).toNat < nN m := by omega
    have ex : sNx m (nN m) = (((sNx m (nN m)).toNat : Nat) : Int) := by omega
    refine ex.trans (xiyf1 (P := fun n => Z.testBit n = true ∧ ((xcnt (fun i => decide (Z.testBit i = true ∧ kK m i < kK m n)) (nN m) : Nat) : Int) = 0) hx (fun i hi h => ?_) ⟨(hz _ hx).mpr h3, ?_⟩) |>.symm
    · have c0 := (xcnt_0 (nN m)).mp (show xcnt (fun j => decide (Z.testBit j = true ∧ kK m j < kK m i)) (nN m) = 0 by omega) _ hx
      have c1 : ¬ kK m (sNx m (nN m)).toNat < kK m i := fun hh => c0 (decide_eq_true ⟨(hz _ hx).mpr h3, hh⟩)
      have c2 := h4 i (by omega) ((hz i (by omega)).mp h.1)
      have := iK hI (a := i) (b := (sNx m (nN m)).toNat) (by omega) hx (by omega)
      omega
    · have : xcnt (fun i => decide (Z.testBit i = true ∧ kK m i < kK m (sNx m (nN m)).toNat)) (nN m) = 0 := (xcnt_0 (nN m)).mpr (fun i hi h => by
        have h := of_decide_eq_true h
        have := h4 i hi ((hz i hi).mp h.1)
        omega)
      omega
theorem Rep.run {t m : xD} {s : Nat} (h : Rep t s m) (hI : Inv m) : Rep (xupd t (5 + 89 * s) 10 0) s (xupd m 292 14 0) := by
  have hN := (iNn hI).2
  have fr : ∀ a k, ¬ (a = 5 + 89 * s ∧ k = 10) → xupd t (5 + 89 * s) 10 0 a k = t a k := fun a k hh => xupd_ne (by omega)
  refine ⟨⟨(fr _ 6 (by omega)).trans h.1.1, (fr _ 7 (by omega)).trans h.1.2.1, (fr _ 8 (by omega)).trans h.1.2.2.1, (fr _ 9 (by omega)).trans h.1.2.2.2.1, xupd_eq⟩, fun hh => absurd hh (by show ¬ (0 : Int) = 1; decide), R3.fr (m := xupd m 292 14 0) h.2.2.1 (fun n k hn => fr _ _ (by omega)), R4.fr (m := xupd m 292 14 0) h.2.2.2.1 (fun n j k hn hj => fr _ _ (by omega)), R5.fr (m := xupd m 292 14 0) h.2.2.2.2.1 (fun d j k hd hj => fr _ _ (by omega)), R6.fr (m := xupd m 292 14 0) h.2.2.2.2.2.1 (fun j k hj => fr _ _ (by omega)), R7.fr (m := xupd m 292 14 0) h.2.2.2.2.2.2.1 (fun j k hj => fr _ _ (by omega)), R8.fr (m := xupd m 292 14 0) h.2.2.2.2.2.2.2 (fun j k hj => fr _ _ (by omega))⟩
/-- the name that a repack comes to next -/
theorem Rep.nx {t m : xD} {s n : Nat} {x y : Int} (h : Rep t s m) (hI : Inv m) (hn : n < nN m) (hx : x = ((n : Nat) : Int)) : Rep (xupd (xupd t (18 + 89 * s + 5 * n) 7 y) (5 + 89 * s) 11 (kK m n)) s (xupd (xupd m 292 15 x) 304 n y) := by
  subst hx
  have hN := (iNn hI).2
  have fr : ∀ a k, ¬ (a = 5 + 89 * s ∧ k = 11) → ¬ (a = 18 + 89 * s + 5 * n ∧ k = 7) → xupd (xupd t (18 + 89 * s + 5 * n) 7 y) (5 + 89 * s) 11 (kK m n) a k = t a k := fun a k hh h2 => (xupd_ne (by omega)).trans (xupd_ne (by omega))
  refine ⟨⟨(fr _ 6 (by omega) (by omega)).trans h.1.1, (fr _ 7 (by omega) (by omega)).trans h.1.2.1, (fr _ 8 (by omega) (by omega)).trans h.1.2.2.1, (fr _ 9 (by omega) (by omega)).trans h.1.2.2.2.1, (fr _ 10 (by omega) (by omega)).trans h.1.2.2.2.2⟩, fun hh => ?_, fun q hq => ?_, R4.fr (m := xupd (xupd m 292 15 ((n : Nat) : Int)) 304 n y) h.2.2.2.1 (fun q j k hq hj => ?_), R5.fr (m := xupd (xupd m 292 15 ((n : Nat) : Int)) 304 n y) h.2.2.2.2.1 (fun d j k hd hj => fr _ _ (by omega) (by omega)), R6.fr (m := xupd (xupd m 292 15 ((n : Nat) : Int)) 304 n y) h.2.2.2.2.2.1 (fun j k hj => fr _ _ (by omega) (by omega)), R7.fr (m := xupd (xupd m 292 15 ((n : Nat) : Int)) 304 n y) h.2.2.2.2.2.2.1 (fun j k hj => fr _ _ (by omega) (by omega)), R8.fr (m := xupd (xupd m 292 15 ((n : Nat) : Int)) 304 n y) h.2.2.2.2.2.2.2 (fun j k hj => fr _ _ (by omega) (by omega))⟩
  · show _ = (if ((n : Nat) : Int) = -1 then 0 else kK m (((n : Nat) : Int)).toNat)
    rw [if_neg (by omega)]
    exact xupd_eq
  · have hq : q < nN m := hq
    have h3 := h.2.2.1 q hq
    refine ⟨(fr _ 1 (by omega) (by omega)).trans h3.1, (fr _ 2 (by omega) (by omega)).trans h3.2.1, (fr _ 3 (by omega) (by omega)).trans h3.2.2.1, (fr _ 4 (by omega) (by omega)).trans h3.2.2.2.1, (fr _ 5 (by omega) (by omega)).trans h3.2.2.2.2.1, (fr _ 6 (by omega) (by omega)).trans h3.2.2.2.2.2.1, ?_⟩
    by_cases c : q = n
    · subst c
      exact ((xupd_ne (by omega)).trans xupd_eq).trans xupd_eq.symm
    · exact (fr _ 7 (by omega) (by omega)).trans (h3.2.2.2.2.2.2.trans (Eq.symm (xupd_ne (by omega))))
  · have hq : q < nN m := hq
    exact fr _ _ (by omega) (by omega)
theorem tEnd_ne {m : xD} {K a k : Nat} (h : ¬ ((a = 296 ∨ a = 297) ∧ k < K)) : tEnd m K a k = m a k := (if_neg (by omega)).trans (if_neg (by omega))
/-- the end of a repack, at one more name -/
theorem Rep.en {t u m : xD} {s k : Nat} (h : Rep t s (tEnd m k)) (hI : Inv m) (hk : k < nN m) (ht : ∀ a j, ¬ (a = 18 + 89 * s + 5 * k ∧ (j = 5 ∨ j = 6)) → u a j = t a j) (h6 : u (18 + 89 * s + 5 * k) 6 = tPk m k) (h5 : u (18 + 89 * s + 5 * k) 5 = if m 296 k = tPk m k then 0 else m 296 k) : Rep u s (tEnd m (k + 1)) := by
  have hIe : Inv (tEnd m k) := hI.kp tEnd_kp (fun n hn => iJ hI hn)
  have eN : nN (tEnd m k) = nN m := rfl
  have h4 := h.2.2.2.1 k hk
  refine Rep.name (n := k) h hIe hk (fun a j hh => ht a j (by omega)) (fun j h1 h2 => ht _ j (by omega)) (fun a j hh => ?_) (fun q hq hq2 => ?_) ⟨h5.trans ?_, h6.trans ?_⟩ ⟨(ht _ 3 (by omega)).trans (h4.1.trans ?_), fun r hr => ?_⟩
  · rw [tEnd_ne (by omega), tEnd_ne (by omega)]
  · refine ⟨?_, ?_, ?_, fun j hj => ?_⟩
    · unfold tEnd
      rw [if_neg (show ¬ (296 = 297 ∧ q < k + 1) by omega), if_neg (show ¬ (296 = 297 ∧ q < k) by omega)]
      by_cases c : q < k
      · rw [if_pos (show 296 = 296 ∧ q < k + 1 from ⟨rfl, by omega⟩), if_pos (show 296 = 296 ∧ q < k from ⟨rfl, c⟩)]
      · rw [if_neg (show ¬ (296 = 296 ∧ q < k + 1) by omega), if_neg (show ¬ (296 = 296 ∧ q < k) by omega)]
    · unfold tEnd
      by_cases c : q < k
      · rw [if_pos (show 297 = 297 ∧ q < k + 1 from ⟨rfl, by omega⟩), if_pos (show 297 = 297 ∧ q < k from ⟨rfl, c⟩)]
      · rw [if_neg (show ¬ (297 = 297 ∧ q < k + 1) by omega), if_neg (show ¬ (297 = 297 ∧ q < k) by omega), if_neg (show ¬ (297 = 296 ∧ q < k + 1) by omega), if_neg (show ¬ (297 = 296 ∧ q < k) by omega)]
    · rw [tEnd_ne (by omega), tEnd_ne (by omega)]
    · rw [tEnd_ne (by omega), tEnd_ne (by omega)]
  · exact Eq.symm ((if_neg (by omega)).trans (if_pos ⟨rfl, by omega⟩))
  · exact Eq.symm (if_pos ⟨rfl, by omega⟩)
  · rw [tEnd_ne (by omega), tEnd_ne (by omega)]
  · have hr : ((r : Nat) : Int) < tEnd m k 298 k := by rw [tEnd_ne (by omega)] at hr ⊢; exact hr
    have q := h4.2 r hr
    have e := fun j => (tEnd_ne (m := m) (K := k + 1) (a := 299) (k := j) (by omega)).trans (tEnd_ne (m := m) (K := k) (a := 299) (k := j) (by omega)).symm
    rw [e, e, e]
    exact ⟨(ht _ _ (by omega)).trans q.1, (ht _ _ (by omega)).trans q.2.1, (ht _ _ (by omega)).trans q.2.2⟩
theorem tEnd_run {m : xD} {K : Nat} : tEnd (xupd m 292 14 0) K = xupd (tEnd m K) 292 14 0 := by
  funext a k
  by_cases c : a = 292 ∧ k = 14
  · rw [c.1, c.2]
    exact (tEnd_ne (by omega)).trans (xupd_eq.trans xupd_eq.symm)
  · rw [xupd_ne c]
    unfold tEnd
    by_cases c1 : a = 297 ∧ k < K
    · rw [if_pos c1, if_pos c1]
      rfl
    · rw [if_neg c1, if_neg c1]
      by_cases c2 : a = 296 ∧ k < K
      · rw [if_pos c2, if_pos c2]
        rfl
      · rw [if_neg c2, if_neg c2, xupd_ne c]
theorem c_endRepack {d : Nat} {g : xG} {t m : xD} {s : Nat} {n : Nat} (L : xLay g) (hs : s < 3) (hI : Inv m) (hR : Rep t s (tEnd m n)) (hn : n < nN m) : xCall (d + 1) 19 [(2, (((18 + 89 * s + 5 * n) : Nat) : Int))] g t (fun r g1 t1 => g1 = g ∧ r = none ∧ Rep t1 s (tEnd m (n + 1)) ∧ Fr s t t1) := by
  show xOk (d + 1) 19 0 [(2, (((18 + 89 * s + 5 * n) : Nat) : Int))] [] g t _
  have iNn_ := iNn hI
  refine xk_load rfl (p := 1) rfl rfl ?_
  refine xk_load rfl (p := 2) rfl rfl ?_
  refine xk_callp rfl (p := 5) rfl (by decide) rfl (Nat.le_of_ble_eq_true rfl) (Nat.le_of_ble_eq_true rfl) (xrv ((ly_nm L hs (show n < 12 by omega)).1) (by decide)) (as := [(2, (((18 + 89 * s + 5 * n) : Nat) : Int))]) (r := [(2, (((18 + 89 * s + 5 * n) : Nat) : Int))]) rfl (v := (0, sSto m n)) (xCall_eq (c_stored (m := tEnd m n) L hs (hI.kp tEnd_kp (fun n hn => iJ hI hn)) hR hn) tEnd_st) ?_
  refine xk_if rfl (p := 8) rfl (fun c5_1 => ?_) (fun c5_1 => ?_)
  · replace c5_1 : ¬ (sSto m n = 0) := c5_1
    refine xk_load rfl (p := 13) rfl rfl ?_
    refine xk_getf rfl (p := 16) rfl (xob ((ly_nm L hs (show n < 12 by omega)).1) (by decide)) (v := (0, m 304 n)) (xsl0 rfl ((rWro hR (show n < nN (tEnd m n) by exact hn)).trans (tEnd_ne (by omega)))) ?_
    refine xk_putf rfl (p := 19) rfl (xob ((ly_nm L hs (show n < 12 by omega)).1) (by decide)) rfl (by decide) (by decide) (fun h => absurd h (by decide)) (by omega) ?_
    refine xk_load rfl (p := 20) rfl rfl ?_
    refine xk_getf rfl (p := 23) rfl (xob ((ly_nm L hs (show n < 12 by omega)).1) (by decide)) (v := (0, m 296 n)) (xsl0 rfl ((xupd_ne (by omega)).trans ((rLoo hR (show n < nN (tEnd m n) by exact hn)).trans (tEnd_ne (by omega))))) ?_
    refine xk_load rfl (p := 24) rfl rfl ?_
    refine xk_getf rfl (p := 27) rfl (xob ((ly_nm L hs (show n < 12 by omega)).1) (by decide)) (v := (0, m 304 n)) (xsl0 rfl xupd_eq) ?_
    refine xk_icmp rfl (p := 30) rfl (fun c27_2 => ?_) (fun c27_2 => ?_)
    · replace c27_2 : ¬ (m 296 n = m 304 n) := c27_2
      refine xk_ret rfl (rfl) ?_
      have ep : m 304 n = tPk m n := by unfold tPk; first | exact (if_pos (by assumption)).symm | exact (if_neg (by assumption)).symm
      exact ⟨rfl, rfl, hR.en hI hn (fun a j hh => xupd_ne (by omega)) (xupd_eq.trans ep) (((xupd_ne (by omega)).trans ((rLoo hR (show n < nN (tEnd m n) by exact hn)).trans (tEnd_ne (by omega)))).trans (if_neg (by rw [← ep]; assumption)).symm), (Fr.rf.up (by omega) (by omega))⟩
    · replace c27_2 : m 296 n = m 304 n := Decidable.not_not.mp c27_2
      refine xk_load rfl (p := 31) rfl rfl ?_
      refine xk_push rfl (p := 32) rfl ?_
      refine xk_putf rfl (p := 35) rfl (xob ((ly_nm L hs (show n < 12 by omega)).1) (by decide)) rfl (by decide) (by decide) (fun h => absurd h (by decide)) (by omega) ?_
      refine xk_ret rfl (rfl) ?_
      have ep : m 304 n = tPk m n := by unfold tPk; first | exact (if_pos (by assumption)).symm | exact (if_neg (by assumption)).symm
      exact ⟨rfl, rfl, hR.en hI hn (fun a j hh => (xupd_ne (by omega)).trans (xupd_ne (by omega))) (((xupd_ne (by omega)).trans xupd_eq).trans ep) (xupd_eq.trans (if_pos (by rw [← ep]; assumption)).symm), ((Fr.rf.up (by omega) (by omega)).up (by omega) (by omega))⟩
  · replace c5_1 : sSto m n = 0 := Decidable.not_not.mp c5_1
    refine xk_push rfl (p := 9) rfl ?_
    refine xk_goto rfl ?_
    refine xk_putf rfl (p := 19) rfl (xob ((ly_nm L hs (show n < 12 by omega)).1) (by decide)) rfl (by decide) (by decide) (fun h => absurd h (by decide)) (by omega) ?_
    refine xk_load rfl (p := 20) rfl rfl ?_
    refine xk_getf rfl (p := 23) rfl (xob ((ly_nm L hs (show n < 12 by omega)).1) (by decide)) (v := (0, m 296 n)) (xsl0 rfl ((xupd_ne (by omega)).trans ((rLoo hR (show n < nN (tEnd m n) by exact hn)).trans (tEnd_ne (by omega))))) ?_
    refine xk_load rfl (p := 24) rfl rfl ?_
    refine xk_getf rfl (p := 27) rfl (xob ((ly_nm L hs (show n < 12 by omega)).1) (by decide)) (v := (0, 0)) (xsl0 rfl xupd_eq) ?_
    refine xk_icmp rfl (p := 30) rfl (fun c27_3 => ?_) (fun c27_3 => ?_)
    · replace c27_3 : ¬ (m 296 n = 0) := c27_3
      refine xk_ret rfl (rfl) ?_
      have ep : (0 : Int) = tPk m n := by unfold tPk; first | exact (if_pos (by assumption)).symm | exact (if_neg (by assumption)).symm
      exact ⟨rfl, rfl, hR.en hI hn (fun a j hh => xupd_ne (by omega)) (xupd_eq.trans ep) (((xupd_ne (by omega)).trans ((rLoo hR (show n < nN (tEnd m n) by exact hn)).trans (tEnd_ne (by omega)))).trans (if_neg (by rw [← ep]; assumption)).symm), (Fr.rf.up (by omega) (by omega))⟩
    · replace c27_3 : m 296 n = 0 := Decidable.not_not.mp c27_3
      refine xk_load rfl (p := 31) rfl rfl ?_
      refine xk_push rfl (p := 32) rfl ?_
      refine xk_putf rfl (p := 35) rfl (xob ((ly_nm L hs (show n < 12 by omega)).1) (by decide)) rfl (by decide) (by decide) (fun h => absurd h (by decide)) (by omega) ?_
      refine xk_ret rfl (rfl) ?_
      have ep : (0 : Int) = tPk m n := by unfold tPk; first | exact (if_pos (by assumption)).symm | exact (if_neg (by assumption)).symm
      exact ⟨rfl, rfl, hR.en hI hn (fun a j hh => (xupd_ne (by omega)).trans (xupd_ne (by omega))) (((xupd_ne (by omega)).trans xupd_eq).trans ep) (xupd_eq.trans (if_pos (by rw [← ep]; assumption)).symm), ((Fr.rf.up (by omega) (by omega)).up (by omega) (by omega))⟩

theorem c_stepOfRepack {d : Nat} {g : xG} {t m : xD} {s : Nat} (L : xLay g) (hs : s < 3) (hI : Inv m) (hR : Rep t s m) : xCall (d + 2) 55 [(2, (((5 + 89 * s) : Nat) : Int))] g t (zQ s g t (some (0, (tRep m).1), (tRep m).2)) := by
  show xOk (d + 2) 55 0 [(2, (((5 + 89 * s) : Nat) : Int)), (3, 0), (3, 0)] [] g t _
  have iNn_ := iNn hI
  have iP_ := iP hI
  refine xk_load rfl (p := 1) rfl rfl ?_
  refine xk_getf rfl (p := 4) rfl (xob (ly_st L hs) (by decide)) (v := (0, m 292 14)) (xsl0 rfl (rRun hR)) ?_
  have iP_ := iP hI
  refine xk_if rfl (p := 7) rfl (fun c4_1 => ?_) (fun c4_1 => ?_)
  · replace c4_1 : ¬ (m 292 14 = 0) := c4_1
    refine xk_load rfl (p := 10) rfl rfl ?_
    refine xk_load rfl (p := 11) rfl rfl ?_
    refine xk_callp rfl (p := 14) rfl (by decide) rfl (Nat.le_of_ble_eq_true rfl) (Nat.le_of_ble_eq_true rfl) (xrv (ly_st L hs) (by decide)) (as := [(2, (((5 + 89 * s) : Nat) : Int))]) (r := [(2, (((5 + 89 * s) : Nat) : Int))]) rfl (v := (0, ((xbs (fun i => decide (¬ sSto m i = 0)) (nN m) : Nat) : Int))) (c_namesStored L hs hI hR) ?_
    have xbs_ := xbs_lt (p := fun i => decide (¬ sSto m i = 0)) (K := nN m) (by omega)
    refine xk_load rfl (p := 15) rfl rfl ?_
    refine xk_load rfl (p := 16) rfl rfl ?_
    refine xk_getf rfl (p := 19) rfl (xob (ly_st L hs) (by decide)) (v := (1, sRk m)) (xsl1 rfl (rRea hR (by omega))) ?_
    refine xk_callp rfl (p := 22) rfl (by decide) rfl (Nat.le_of_ble_eq_true rfl) (Nat.le_of_ble_eq_true rfl) (xrv (ly_st L hs) (by decide)) (as := [(2, (((5 + 89 * s) : Nat) : Int)), (1, sRk m)]) (r := [(0, ((xbs (fun i => decide (¬ sSto m i = 0)) (nN m) : Nat) : Int)), (2, (((5 + 89 * s) : Nat) : Int))]) rfl (v := (0, ((xbs (fun i => decide (sRk m < kK m i)) (nN m) : Nat) : Int))) (c_namesBehind L hs hI hR) ?_
    have xbs_ := xbs_lt (p := fun i => decide (sRk m < kK m i)) (K := nN m) (by omega)
    refine xk_bin rfl (p := 23) rfl (z := (((xbs (fun i => decide (¬ sSto m i = 0)) (nN m)) &&& (xbs (fun i => decide (sRk m < kK m i)) (nN m)) : Nat) : Int)) (congrArg some (xand_s (xbs_lt (by omega)) (xbs_lt (by omega)))) ?_
    refine xk_push rfl (p := 24) rfl ?_
    refine xk_callp rfl (p := 27) rfl (by decide) rfl (Nat.le_of_ble_eq_true rfl) (Nat.le_of_ble_eq_true rfl) (xrv (ly_st L hs) (by decide)) (as := [(2, (((5 + 89 * s) : Nat) : Int)), (0, (((xbs (fun i => decide (¬ sSto m i = 0)) (nN m)) &&& (xbs (fun i => decide (sRk m < kK m i)) (nN m)) : Nat) : Int)), (0, 0)]) (r := []) rfl (v := (0, (if sNx m (nN m) = -1 then -5 else sNx m (nN m)))) (xCall_eq (c_numberAmong L hs hI hR (Nat.lt_of_le_of_lt Nat.and_le_left (xbs_lt (by omega)))) (nx_eq hI (by omega))) ?_
    have nx_ := sNx_rng (m := m) (K := nN m)
    have nf_ : (if sNx m (nN m) = -1 then -5 else sNx m (nN m)) = -5 ∧ sNx m (nN m) = -1 ∨ (if sNx m (nN m) = -1 then -5 else sNx m (nN m)) = sNx m (nN m) ∧ 0 ≤ sNx m (nN m) := by split <;> omega
    refine xk_store rfl (p := 28) rfl (by decide) (Nat.le_of_ble_eq_true rfl) (ls' := [(2, (((5 + 89 * s) : Nat) : Int)), (0, (if sNx m (nN m) = -1 then -5 else sNx m (nN m))), (3, 0)]) rfl ?_
    refine xk_load rfl (p := 29) rfl rfl ?_
    refine xk_if rfl (p := 32) rfl (fun c29_2 => ?_) (fun c29_2 => ?_)
    · replace c29_2 : (if sNx m (nN m) = -1 then -5 else sNx m (nN m)) < 0 := c29_2
      refine xk_push rfl (p := 67) rfl ?_
      refine xk_store rfl (p := 68) rfl (by decide) (Nat.le_of_ble_eq_true rfl) (ls' := [(2, (((5 + 89 * s) : Nat) : Int)), (0, (if sNx m (nN m) = -1 then -5 else sNx m (nN m))), (0, 0)]) rfl ?_
      have lp3 : ∀ k : Nat, k ≤ nN m → ∀ (u1 : xD), (Rep u1 s (tEnd m k)) → (Fr s t u1) → xOk (d + 2) 55 68 [(2, (((5 + 89 * s) : Nat) : Int)), (0, (if sNx m (nN m) = -1 then -5 else sNx m (nN m))), (0, ((k : Nat) : Int))] [] g u1 (zQ s g t (some (0, (tRep m).1), (tRep m).2)) := by
        refine xk_up (nN m) (fun k hkk ih3  u1 h1_1 h1_2 => ?_)
        refine xk_load rfl (p := 69) rfl rfl ?_
        refine xk_load rfl (p := 70) rfl rfl ?_
        refine xk_getf rfl (p := 73) rfl (xob (ly_st L hs) (by decide)) (v := (0, ((nN m : Nat) : Int))) (xsl0 rfl ((rN h1_1).trans ((tEnd_ne (by omega)).trans (iNn hI).1))) ?_
        refine xk_icmp rfl (p := 76) rfl (fun c73_4 => ?_) (fun c73_4 => ?_)
        · replace c73_4 : ((nN m : Nat) : Int) ≤ ((k : Nat) : Int) := c73_4
          refine xk_load rfl (p := 92) rfl rfl ?_
          refine xk_push rfl (p := 93) rfl ?_
          refine xk_putf rfl (p := 96) rfl (xob (ly_st L hs) (by decide)) rfl (by decide) (by decide) (fun _ => by simp) (by omega) ?_
          refine xk_push rfl (p := 97) rfl ?_
          refine xk_ret rfl (rfl) ?_
          rw [show k = nN m by omega] at h1_1
          have e : tRep m = (1, xupd (tEnd m (nN m)) 292 14 0) := by
            unfold tRep
            rw [if_neg (by omega), if_pos (by omega), tEnd_run]
          exact zRet (show (some ((0, (tRep m).1) : xV), (tRep m).2) = (some (0, 1), xupd (tEnd m (nN m)) 292 14 0) from by rw [e]) (h1_1.run (hI.kp tEnd_kp (fun n hn => iJ hI hn))) (h1_2.up (by omega) (by omega))
        · replace c73_4 : ¬ (((nN m : Nat) : Int) ≤ ((k : Nat) : Int)) := c73_4
          refine xk_load rfl (p := 77) rfl rfl ?_
          refine xk_getf rfl (p := 80) rfl (xob (ly_st L hs) (by decide)) (v := (2, (((6 + 89 * s) : Nat) : Int))) (xsl2 rfl (ly_s0 L hs)) ?_
          refine xk_load rfl (p := 81) rfl rfl ?_
          refine xk_ald rfl (p := 82) rfl (v := (2, (((18 + 89 * s + 5 * k) : Nat) : Int))) (xal2 (ly_sn L hs) (by decide) (show k < 12 by omega) (ly_ne L hs (show k < 12 by omega))) ?_
          refine xk_call rfl (p := 85) rfl (by decide) rfl (Nat.le_of_ble_eq_true rfl) (Nat.le_of_ble_eq_true rfl) (xrv ((ly_nm L hs (show k < 12 by omega)).1) (by decide)) (as := [(2, (((18 + 89 * s + 5 * k) : Nat) : Int))]) (r := []) rfl (c_endRepack L hs hI h1_1 (show k < nN m by omega)) ?_
          rintro _ g v7 ⟨rfl, rfl, hV7, hF7⟩
          refine xk_inc1 rfl (p := 88) rfl (n := k) rfl (by omega) (ls' := [(2, (((5 + 89 * s) : Nat) : Int)), (0, (if sNx m (nN m) = -1 then -5 else sNx m (nN m))), (0, ((k + 1 : Nat) : Int))]) rfl ?_
          refine xk_goto rfl ?_
          exact ih3 (by omega)  v7 (by exact hV7) (by exact h1_2.tr hF7)
      exact lp3 0 (by omega)  t (by rw [tEnd_0]; exact hR) (by exact Fr.rf)
    · replace c29_2 : ¬ ((if sNx m (nN m) = -1 then -5 else sNx m (nN m)) < 0) := c29_2
      refine xk_load rfl (p := 33) rfl rfl ?_
      refine xk_getf rfl (p := 36) rfl (xob (ly_st L hs) (by decide)) (v := (2, (((6 + 89 * s) : Nat) : Int))) (xsl2 rfl (ly_s0 L hs)) ?_
      refine xk_load rfl (p := 37) rfl rfl ?_
      refine xk_aldi rfl (p := 38) rfl (show 0 ≤ (if sNx m (nN m) = -1 then -5 else sNx m (nN m)) by omega) (v := (2, (((18 + 89 * s + 5 * ((if sNx m (nN m) = -1 then -5 else sNx m (nN m)).toNat)) : Nat) : Int))) (xal2 (ly_sn L hs) (by decide) (show (if sNx m (nN m) = -1 then -5 else sNx m (nN m)).toNat < 12 by omega) (ly_ne L hs (show (if sNx m (nN m) = -1 then -5 else sNx m (nN m)).toNat < 12 by omega))) ?_
      refine xk_load rfl (p := 39) rfl rfl ?_
      refine xk_getf rfl (p := 42) rfl (xob (ly_st L hs) (by decide)) (v := (2, (((6 + 89 * s) : Nat) : Int))) (xsl2 rfl (ly_s0 L hs)) ?_
      refine xk_load rfl (p := 43) rfl rfl ?_
      refine xk_aldi rfl (p := 44) rfl (show 0 ≤ (if sNx m (nN m) = -1 then -5 else sNx m (nN m)) by omega) (v := (2, (((18 + 89 * s + 5 * ((if sNx m (nN m) = -1 then -5 else sNx m (nN m)).toNat)) : Nat) : Int))) (xal2 (ly_sn L hs) (by decide) (show (if sNx m (nN m) = -1 then -5 else sNx m (nN m)).toNat < 12 by omega) (ly_ne L hs (show (if sNx m (nN m) = -1 then -5 else sNx m (nN m)).toNat < 12 by omega))) ?_
      refine xk_callp rfl (p := 47) rfl (by decide) rfl (Nat.le_of_ble_eq_true rfl) (Nat.le_of_ble_eq_true rfl) (xrv ((ly_nm L hs (show (if sNx m (nN m) = -1 then -5 else sNx m (nN m)).toNat < 12 by omega)).1) (by decide)) (as := [(2, (((18 + 89 * s + 5 * ((if sNx m (nN m) = -1 then -5 else sNx m (nN m)).toNat)) : Nat) : Int))]) (r := [(2, (((18 + 89 * s + 5 * ((if sNx m (nN m) = -1 then -5 else sNx m (nN m)).toNat)) : Nat) : Int))]) rfl (v := (0, sSto m ((if sNx m (nN m) = -1 then -5 else sNx m (nN m)).toNat))) (c_stored L hs hI hR (show (if sNx m (nN m) = -1 then -5 else sNx m (nN m)).toNat < nN m by omega)) ?_
      refine xk_putf rfl (p := 50) rfl (xob ((ly_nm L hs (show (if sNx m (nN m) = -1 then -5 else sNx m (nN m)).toNat < 12 by omega)).1) (by decide)) rfl (by decide) (by decide) (fun h => absurd h (by decide)) (by omega) ?_
      refine xk_load rfl (p := 51) rfl rfl ?_
      refine xk_load rfl (p := 52) rfl rfl ?_
      refine xk_getf rfl (p := 55) rfl (xob (ly_st L hs) (by decide)) (v := (2, (((6 + 89 * s) : Nat) : Int))) (xsl2 rfl (ly_s0 L hs)) ?_
      refine xk_load rfl (p := 56) rfl rfl ?_
      refine xk_aldi rfl (p := 57) rfl (show 0 ≤ (if sNx m (nN m) = -1 then -5 else sNx m (nN m)) by omega) (v := (2, (((18 + 89 * s + 5 * ((if sNx m (nN m) = -1 then -5 else sNx m (nN m)).toNat)) : Nat) : Int))) (xal2 (ly_sn L hs) (by decide) (show (if sNx m (nN m) = -1 then -5 else sNx m (nN m)).toNat < 12 by omega) (ly_ne L hs (show (if sNx m (nN m) = -1 then -5 else sNx m (nN m)).toNat < 12 by omega))) ?_
      refine xk_getf rfl (p := 60) rfl (xob ((ly_nm L hs (show (if sNx m (nN m) = -1 then -5 else sNx m (nN m)).toNat < 12 by omega)).1) (by decide)) (v := (1, kK m ((if sNx m (nN m) = -1 then -5 else sNx m (nN m)).toNat))) (xsl1 rfl ((xupd_ne (by omega)).trans (rKey hR (show (if sNx m (nN m) = -1 then -5 else sNx m (nN m)).toNat < nN m by omega)))) ?_
      refine xk_putf rfl (p := 63) rfl (xob (ly_st L hs) (by decide)) rfl (by decide) (by decide) (fun h => absurd h (by decide)) (by omega) ?_
      refine xk_goto rfl ?_
      refine xk_push rfl (p := 97) rfl ?_
      refine xk_ret rfl (rfl) ?_
      have ex : (if sNx m (nN m) = -1 then -5 else sNx m (nN m)) = sNx m (nN m) := by omega
      simp only [ex]
      have e : tRep m = (1, xupd (xupd m 292 15 (sNx m (nN m))) 304 (sNx m (nN m)).toNat (sSto m (sNx m (nN m)).toNat)) := by
        unfold tRep
        rw [if_neg (by omega), if_neg (by omega)]
      exact zRet (show (some ((0, (tRep m).1) : xV), (tRep m).2) = (some (0, 1), xupd (xupd m 292 15 (sNx m (nN m))) 304 (sNx m (nN m)).toNat (sSto m (sNx m (nN m)).toNat)) from by rw [e]) (hR.nx hI (by omega) (by omega)) ((Fr.rf.up (by omega) (by omega)).up (by omega) (by omega))
  · replace c4_1 : m 292 14 = 0 := Decidable.not_not.mp c4_1
    refine xk_push rfl (p := 8) rfl ?_
    refine xk_ret rfl (rfl) ?_
    have e : tRep m = (0, m) := if_pos (by omega)
    exact zRet (show (some ((0, (tRep m).1) : xV), (tRep m).2) = (some (0, 0), m) from by rw [e]) hR Fr.rf
