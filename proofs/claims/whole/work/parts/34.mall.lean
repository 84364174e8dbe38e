/-! THE MODEL: ORDERS OF A SET, STATE -/
theorem and0_iff {x : Int} {y : Nat} (hx : xr32 x) (hy : y < 16) : xand x (xxor ((y : Nat) : Int) (-1)) = 0 ↔ (0 ≤ x ∧ x < 16 ∧ ∀ d, d < 4 → x.toNat.testBit d = true → y.testBit d = true) := by
  have hx1 : -2147483648 ≤ x := hx.1
  have hx2 : x < 2147483648 := by have := hx.2; omega
  have a2 : (Int32.ofInt ((y : Nat) : Int)).toBitVec = BitVec.ofNat 32 y := by
    show BitVec.ofInt 32 ((y : Nat) : Int) = _
    rw [BitVec.ofInt_natCast]
  have hm : ∀ i, i < 32 → ((Int32.ofInt (-1)).toBitVec).getLsbD i = true := by decide
  have hand : (Int32.ofInt x &&& Int32.ofInt (xxor ((y : Nat) : Int) (-1))).toBitVec = (Int32.ofInt x).toBitVec &&& (BitVec.ofNat 32 y ^^^ (Int32.ofInt (-1)).toBitVec) := by
    unfold xxor
    rw [Int32.ofInt_toInt, Int32.toBitVec_and, Int32.toBitVec_xor, a2]
  constructor
  · intro h
    have h0 : (Int32.ofInt x).toBitVec &&& (BitVec.ofNat 32 y ^^^ (Int32.ofInt (-1)).toBitVec) = 0#32 := by
      rw [← hand]
      have : Int32.toInt (Int32.ofInt x &&& Int32.ofInt (xxor ((y : Nat) : Int) (-1))) = 0 := h
      exact BitVec.eq_of_toInt_eq (by rw [show BitVec.toInt (Int32.toBitVec _) = 0 from this]; rfl)
    have hb : ∀ i, i < 32 → (Int32.ofInt x).toBitVec.getLsbD i = true → y.testBit i = true := by
      intro i hi h1
      have h2 : ((Int32.ofInt x).toBitVec &&& (BitVec.ofNat 32 y ^^^ (Int32.ofInt (-1)).toBitVec)).getLsbD i = (0#32).getLsbD i := by rw [h0]
      rw [BitVec.getLsbD_and, BitVec.getLsbD_xor, BitVec.getLsbD_ofNat, hm i hi, h1, show decide (i < 32) = true from decide_eq_true hi, BitVec.getLsbD_zero, Bool.true_and, Bool.true_and] at h2
      cases e : y.testBit i
      · rw [e] at h2
        cases h2
      · rfl
    have hlt : (Int32.ofInt x).toBitVec.toNat < 2 ^ 4 := by
      apply Nat.lt_pow_two_of_testBit
      intro i hi
      by_cases c : i < 32
      · cases e : (Int32.ofInt x).toBitVec.toNat.testBit i
        · rfl
        · have := hb i c e
          rw [Nat.testBit_lt_two_pow (Nat.lt_of_lt_of_le hy (Nat.pow_le_pow_right (n := 2) (i := 4) (by decide) hi))] at this
          cases this
      · exact Nat.testBit_lt_two_pow (Nat.lt_of_lt_of_le (BitVec.isLt _) (Nat.pow_le_pow_right (n := 2) (i := 32) (by decide) (by omega)))
    have e : x = (((Int32.ofInt x).toBitVec.toNat : Nat) : Int) := by
      have h1 : (Int32.ofInt x).toInt = x := i32_rt hx1 hx2
      have h2 : (Int32.ofInt x).toBitVec.toInt = ((Int32.ofInt x).toBitVec.toNat : Int) := BitVec.toInt_eq_toNat_of_lt (by omega)
      exact h1.symm.trans h2
    have e2 : x.toNat = (Int32.ofInt x).toBitVec.toNat := by omega
    exact ⟨by omega, by omega, fun d hd h1 => hb d (by omega) (by rw [e2] at h1; exact h1)⟩
  · rintro ⟨h1, h2, h3⟩
    have e : x = ((x.toNat : Nat) : Int) := by omega
    have hs : xand ((x.toNat : Nat) : Int) (xxor ((y : Nat) : Int) (-1)) = ((xdf x.toNat y : Nat) : Int) := xandn_s (by omega) (by omega)
    rw [← e] at hs
    rw [hs]
    have : xdf x.toNat y = 0 := eq_bits (xdf_lt (by omega)) (by decide) (fun j hj => by
      rw [xdf_bit hj, Nat.zero_testBit]
      constructor
      · rintro ⟨a, b⟩
        by_cases c : j < 4
        · exact absurd (h3 j c a) b
        · rw [Nat.testBit_lt_two_pow (Nat.lt_of_lt_of_le (show x.toNat < 2 ^ 4 by omega) (Nat.pow_le_pow_right (n := 2) (i := 4) (by decide) (by omega)))] at a
          cases a
      · intro a
        cases a)
    rw [this]
    rfl
theorem xbit_2 {x y : Int} (h0 : 0 ≤ x) (h1 : x < 4096) (h2 : 0 ≤ y) (h3 : y < 12) : xand (xshr x y) 1 = (if x.toNat.testBit y.toNat = true then (1 : Int) else 0) := by
  have := xbit_i (z := x.toNat) (by omega) h2 h3
  rw [Int.toNat_of_nonneg h0] at this
  exact this
def bSet (m : xD) (x : Int) : Bool := decide (0 ≤ x ∧ x < 16) && (List.range 4).all (fun d => !x.toNat.testBit d || decide (0 < m 300 d ∧ ¬ sCom m = ((d : Nat) : Int)))
theorem bSet_iff {m : xD} {x : Int} : bSet m x = true ↔ (0 ≤ x ∧ x < 16 ∧ ∀ d, d < 4 → x.toNat.testBit d = true → 0 < m 300 d ∧ ¬ sCom m = ((d : Nat) : Int)) := by
  unfold bSet
  rw [Bool.and_eq_true, decide_eq_true_iff, List.all_eq_true]
  constructor
  · rintro ⟨⟨h1, h2⟩, h3⟩
    refine ⟨h1, h2, fun d hd hb => ?_⟩
    have := h3 d (List.mem_range.mpr hd)
    rw [hb] at this
    exact of_decide_eq_true this
  · rintro ⟨h1, h2, h3⟩
    refine ⟨⟨h1, h2⟩, fun d hd => ?_⟩
    cases e : x.toNat.testBit d
    · rfl
    · exact decide_eq_true (h3 d (List.mem_range.mp hd) e)
theorem n_isSet {d : Nat} {g : xG} {t m : xD} {x : Int} (L : xLay g) (hM : Mo t m) (hI : Inv m) (hx : xr32 x) : xCall (d + 1) 169 [(2, ((292 : Nat) : Int)), (0, x)] g t (xQ g t (some (0, if bSet m x = true then (1 : Int) else 0))) := by
  show xOk (d + 1) 169 0 [(2, ((292 : Nat) : Int)), (0, x), (3, 0)] [] g t _
  have iNn_ := iNn hI
  refine xk_load rfl (p := 1) rfl rfl ?_
  refine xk_callp rfl (p := 4) rfl (by decide) rfl (Nat.le_of_ble_eq_true rfl) (Nat.le_of_ble_eq_true rfl) (xrv (ly_m L) (by decide)) (as := [(2, ((292 : Nat) : Int))]) (r := []) rfl (v := (0, sCom m)) (n_committing L hM hI) ?_
  have sCom_ := sCom_rng (m := m)
  refine xk_store rfl (p := 5) rfl (by decide) (Nat.le_of_ble_eq_true rfl) (ls' := [(2, ((292 : Nat) : Int)), (0, x), (0, sCom m)]) rfl ?_
  refine xk_load rfl (p := 6) rfl rfl ?_
  refine xk_if rfl (p := 9) rfl (fun c6_1 => ?_) (fun c6_1 => ?_)
  · replace c6_1 : x < 0 := c6_1
    refine xk_push rfl (p := 38) rfl ?_
    refine xk_rete rfl (rfl) ?_
    exact (if_neg (fun h => by have h := (bSet_iff.mp h).1; omega)).symm
  · replace c6_1 : ¬ (x < 0) := c6_1
    refine xk_load rfl (p := 10) rfl rfl ?_
    refine xk_load rfl (p := 11) rfl rfl ?_
    refine xk_callp rfl (p := 14) rfl (by decide) rfl (Nat.le_of_ble_eq_true rfl) (Nat.le_of_ble_eq_true rfl) (xrv (ly_m L) (by decide)) (as := [(2, ((292 : Nat) : Int))]) (r := [(0, x)]) rfl (v := (0, ((xbs (fun d => decide (0 < m 300 d)) 4 : Nat) : Int))) (n_allDeals L hM hI) ?_
    have xbs_ := xbs_lt4 (p := fun d => decide (0 < m 300 d)) (K := 4) (by omega)
    refine xk_push rfl (p := 15) rfl ?_
    refine xk_bin rfl (p := 16) rfl (z := xxor ((xbs (fun d => decide (0 < m 300 d)) 4 : Nat) : Int) (-1)) (rfl) ?_
    refine xk_bin rfl (p := 17) rfl (z := xand x (xxor ((xbs (fun d => decide (0 < m 300 d)) 4 : Nat) : Int) (-1))) (rfl) ?_
    refine xk_if rfl (p := 20) rfl (fun c17_2 => ?_) (fun c17_2 => ?_)
    · replace c17_2 : ¬ (xand x (xxor ((xbs (fun d => decide (0 < m 300 d)) 4 : Nat) : Int) (-1)) = 0) := c17_2
      refine xk_push rfl (p := 38) rfl ?_
      refine xk_rete rfl (rfl) ?_
      exact (if_neg (fun h => by have h := bSet_iff.mp h; have := (and0_iff (y := xbs (fun d => decide (0 < m 300 d)) 4) hx (by omega)).mpr ⟨h.1, h.2.1, fun d hd hb => xbs_bit.mpr ⟨hd, decide_eq_true (h.2.2 d hd hb).1⟩⟩; contradiction)).symm
    · replace c17_2 : xand x (xxor ((xbs (fun d => decide (0 < m 300 d)) 4 : Nat) : Int) (-1)) = 0 := Decidable.not_not.mp c17_2
      refine xk_load rfl (p := 21) rfl rfl ?_
      refine xk_push rfl (p := 22) rfl ?_
      refine xk_icmp rfl (p := 25) rfl (fun c22_3 => ?_) (fun c22_3 => ?_)
      · replace c22_3 : sCom m = (-1) := c22_3
        refine xk_push rfl (p := 34) rfl ?_
        refine xk_goto rfl ?_
        refine xk_rete rfl (rfl) ?_
        have as_ := (and0_iff hx (by omega)).mp (by assumption)
        have sb_ : ∀ d, d < 4 → x.toNat.testBit d = true → 0 < m 300 d := fun d hd hb => of_decide_eq_true (xbs_bit.mp (as_.2.2 d hd hb)).2
        exact (if_pos (bSet_iff.mpr ⟨by omega, as_.2.1, fun d hd hb => ⟨sb_ d hd hb, by omega⟩⟩)).symm
      · replace c22_3 : ¬ (sCom m = (-1)) := c22_3
        have as_ := (and0_iff hx (by omega)).mp (by assumption)
        refine xk_load rfl (p := 26) rfl rfl ?_
        refine xk_load rfl (p := 27) rfl rfl ?_
        refine xk_bin rfl (p := 28) rfl (z := xshr x (sCom m)) (rfl) ?_
        refine xk_push rfl (p := 29) rfl ?_
        refine xk_bin rfl (p := 30) rfl (z := (if x.toNat.testBit (sCom m).toNat = true then (1 : Int) else 0)) (congrArg some (xbit_2 (by omega) (by omega) (by omega) (by omega))) ?_
        refine xk_if rfl (p := 33) rfl (fun c30_4 => ?_) (fun c30_4 => ?_)
        · replace c30_4 : x.toNat.testBit (sCom m).toNat = true := xb_n0 c30_4
          refine xk_push rfl (p := 38) rfl ?_
          refine xk_rete rfl (rfl) ?_
          exact (if_neg (fun h => by have h := (bSet_iff.mp h).2.2 (sCom m).toNat (by omega) (by assumption); omega)).symm
        · replace c30_4 : ¬ (x.toNat.testBit (sCom m).toNat = true) := xb_e1 c30_4
          refine xk_push rfl (p := 34) rfl ?_
          refine xk_goto rfl ?_
          refine xk_rete rfl (rfl) ?_
          have as_ := (and0_iff hx (by omega)).mp (by assumption)
          have sb_ : ∀ d, d < 4 → x.toNat.testBit d = true → 0 < m 300 d := fun d hd hb => of_decide_eq_true (xbs_bit.mp (as_.2.2 d hd hb)).2
          exact (if_pos (bSet_iff.mpr ⟨by omega, as_.2.1, fun d hd hb => ⟨sb_ d hd hb, fun e => by rw [show d = (sCom m).toNat by omega] at hb; contradiction⟩⟩)).symm

/-- but what is tried, nothing has changed -/
def Sy (m u : xD) : Prop := ∀ a k, ¬ ((a = 292 ∧ 33 ≤ k ∧ k ≤ 38) ∨ a = 315) → u a k = m a k
theorem Sy.rf {m : xD} : Sy m m := fun _ _ _ => rfl
theorem Sy.tr {m u v : xD} (h1 : Sy m u) (h2 : Sy u v) : Sy m v := fun a k h => (h2 a k h).trans (h1 a k h)
theorem Sy.up {m u : xD} (h : Sy m u) {a k : Nat} {x : Int} (hh : (a = 292 ∧ 33 ≤ k ∧ k ≤ 38) ∨ a = 315) : Sy m (xupd u a k x) := fun b j hb => (xupd_ne (by omega)).trans (h b j hb)
theorem Sx.sy {e : Nat} {m u : xD} (h : Sx e m u) : Sy m u := fun a k hh => h a k (by omega)
theorem Sy.vi {m u : xD} (h : Sy m u) : vw m = vw u := by
  funext a k
  unfold vw
  by_cases c : (a = 292 ∧ 33 ≤ k ∧ k ≤ 38) ∨ a = 315
  · have : vis a k = false := by
      rcases c with ⟨rfl, h1, h2⟩ | rfl
      · rcases (by omega : k = 33 ∨ k = 34 ∨ k = 35 ∨ k = 36 ∨ k = 37 ∨ k = 38) with rfl | rfl | rfl | rfl | rfl | rfl <;> rfl
      · rfl
    rw [this]
    rfl
  · rw [h a k c]
theorem sVal_vi {m u : xD} (h : vw m = vw u) : sVal m = sVal u := by
  show sVal (vw m) = sVal (vw u)
  rw [h]
def exN (m : xD) (a w x : Int) : Acc := exA m a w 4 x.toNat (sVal m) 0 (0, 0, 0, -5)
theorem exN_vi {m u : xD} (h : vw m = vw u) {a w x : Int} : exN m a w x = exN u a w x := by
  unfold exN
  rw [exA_vi h, sVal_vi h]
def aQ (a w x : Int) (g : xG) (t m : xD) : Option xV → xG → xD → Prop := fun r g1 t1 => g1 = g ∧ r = none ∧ Md t t1 ∧ ∃ m1, Mo t1 m1 ∧ Sy m m1 ∧ acc m1 = exN m a w x
def sQ (g : xG) (t m : xD) (v : xV) : Option xV → xG → xD → Prop := fun r g1 t1 => g1 = g ∧ r = some v ∧ Md t t1 ∧ ∃ m1, Mo t1 m1 ∧ Sy m m1
theorem n_all {d : Nat} {g : xG} {t m : xD} {x y z : Int} (L : xLay g) (hM : Mo t m) (hI : Inv m) (hx : bSet m x = true) (hA : y = -1 ∨ (0 ≤ y ∧ y < m 292 0)) : xCall (d + 11) 173 [(2, ((292 : Nat) : Int)), (0, x), (0, y), (0, z)] g t (aQ y z x g t m) := by
  show xOk (d + 11) 173 0 [(2, ((292 : Nat) : Int)), (0, x), (0, y), (0, z), (3, 0)] [] g t _
  have iNn_ := iNn hI
  have set_ := bSet_iff.mp hx
  refine xk_load rfl (p := 1) rfl rfl ?_
  refine xk_push rfl (p := 2) rfl ?_
  refine xk_putf rfl (p := 5) rfl (xob (ly_m L) (by decide)) rfl (by decide) (by decide) (fun h => absurd h (by decide)) (by omega) ?_
  refine xk_load rfl (p := 6) rfl rfl ?_
  refine xk_push rfl (p := 7) rfl ?_
  refine xk_putf rfl (p := 10) rfl (xob (ly_m L) (by decide)) rfl (by decide) (by decide) (fun h => absurd h (by decide)) (by omega) ?_
  refine xk_load rfl (p := 11) rfl rfl ?_
  refine xk_push rfl (p := 12) rfl ?_
  refine xk_putf rfl (p := 15) rfl (xob (ly_m L) (by decide)) rfl (by decide) (by decide) (fun h => absurd h (by decide)) (by omega) ?_
  refine xk_load rfl (p := 16) rfl rfl ?_
  refine xk_push rfl (p := 18) rfl ?_
  refine xk_putf rfl (p := 21) rfl (xob (ly_m L) (by decide)) rfl (by decide) (by decide) (fun h => absurd h (by decide)) (by omega) ?_
  refine xk_load rfl (p := 22) rfl rfl ?_
  refine xk_load rfl (p := 23) rfl rfl ?_
  refine xk_putf rfl (p := 26) rfl (xob (ly_m L) (by decide)) rfl (by decide) (by decide) (fun h => absurd h (by decide)) (by omega) ?_
  refine xk_load rfl (p := 27) rfl rfl ?_
  refine xk_load rfl (p := 28) rfl rfl ?_
  refine xk_putf rfl (p := 31) rfl (xob (ly_m L) (by decide)) rfl (by decide) (by decide) (fun h => absurd h (by decide)) (by omega) ?_
  refine xk_push rfl (p := 32) rfl ?_
  refine xk_store rfl (p := 34) rfl (by decide) (Nat.le_of_ble_eq_true rfl) (ls' := [(2, ((292 : Nat) : Int)), (0, x), (0, y), (0, z), (0, 0)]) rfl ?_
  have lp1 : ∀ k : Nat, k ≤ nN m → ∀ (m1 : xD) (u1 : xD), (Mo u1 m1) → (Md t u1) → (Sy m m1) → (acc m1 = (0, 0, 0, -5)) → (m1 292 38 = y) → (m1 292 37 = z) → (∀ q, q < k → m1 315 q = sVal m q) → xOk (d + 11) 173 34 [(2, ((292 : Nat) : Int)), (0, x), (0, y), (0, z), (0, ((k : Nat) : Int))] [] g u1 (aQ y z x g t m) := by
    refine xk_up (nN m) (fun k hkk ih1  m1 u1 h1_1 h1_2 h1_3 h1_4 h1_5 h1_6 h1_7 => ?_)
    have h1N : nN m1 = nN m := by unfold nN; rw [h1_3 292 0 (by omega)]
    refine xk_load rfl (p := 36) rfl rfl ?_
    refine xk_load rfl (p := 37) rfl rfl ?_
    refine xk_getf rfl (p := 40) rfl (xob (ly_m L) (by decide)) (v := (0, ((nN m : Nat) : Int))) (xsl0 rfl (((h1_1 292 0 (by decide)).trans (h1_3 292 0 (by omega))).trans (iNn hI).1)) ?_
    refine xk_icmp rfl (p := 43) rfl (fun c40_2 => ?_) (fun c40_2 => ?_)
    · replace c40_2 : ((nN m : Nat) : Int) ≤ ((k : Nat) : Int) := c40_2
      refine xk_load rfl (p := 63) rfl rfl ?_
      refine xk_load rfl (p := 64) rfl rfl ?_
      refine xk_push rfl (p := 65) rfl ?_
      refine xk_push rfl (p := 66) rfl ?_
      refine xk_stk (show _ = (0, 0) :: (0, 0) :: (0, ((x.toNat : Nat) : Int)) :: [(2, ((292 : Nat) : Int))] from congrArg (fun z => ((0, 0) : xV) :: ((0, 0) : xV) :: ((0, z) : xV) :: [(2, ((292 : Nat) : Int))]) (Int.toNat_of_nonneg (show 0 ≤ x by omega)).symm) ?_
      refine xk_call rfl (p := 69) rfl (by decide) rfl (Nat.le_of_ble_eq_true rfl) (Nat.le_of_ble_eq_true rfl) (xrv (ly_m L) (by decide)) (as := [(2, ((292 : Nat) : Int)), (0, ((x.toNat : Nat) : Int)), (0, ((0 : Nat) : Int)), (0, 0)]) (r := []) rfl (n_tries 4 (d + 3) x.toNat 0 (sVal m) 0 g u1 m1 L h1_1 (hI.vi h1_3.vi) rfl (by omega) (xcnt_le 4) (by rw [h1_5, h1_3 292 0 (by omega)]; exact hA) (fun q hq hb => by rw [h1_3 300 q (by omega)]; exact (set_.2.2 q hq hb).1) (fun q hq => by rw [show 12 * 0 + q = q by omega]; exact h1_7 q (by rw [h1N] at hq; omega))) ?_
      rintro _ g u2 ⟨rfl, rfl, hD2, m2, h2_1, h2_3, h2_4⟩
      refine xk_ret rfl (rfl) ?_
      exact ⟨rfl, rfl, h1_2.tr hD2, m2, h2_1, h1_3.tr h2_3.sy, by rw [h2_4, h1_5, h1_6, h1_4]; unfold exN; rw [exA_vi h1_3.vi]⟩
    · replace c40_2 : ¬ (((nN m : Nat) : Int) ≤ ((k : Nat) : Int)) := c40_2
      refine xk_load rfl (p := 44) rfl rfl ?_
      refine xk_getf rfl (p := 47) rfl (xob (ly_m L) (by decide)) (v := (2, ((315 : Nat) : Int))) (xsl2 rfl (ly_mp32 L)) ?_
      refine xk_load rfl (p := 49) rfl rfl ?_
      refine xk_load rfl (p := 50) rfl rfl ?_
      refine xk_load rfl (p := 52) rfl rfl ?_
      refine xk_callp rfl (p := 55) rfl (by decide) rfl (Nat.le_of_ble_eq_true rfl) (Nat.le_of_ble_eq_true rfl) (xrv (ly_m L) (by decide)) (as := [(2, ((292 : Nat) : Int)), (0, ((k : Nat) : Int))]) (r := [(0, ((k : Nat) : Int)), (2, ((315 : Nat) : Int))]) rfl (v := (0, sVal m k)) (xCall_eq (n_value (m := m1) L h1_1 (hI.vi h1_3.vi) (show k < 12 by omega)) (by rw [sVal_vi h1_3.vi])) ?_
      refine xk_ast rfl (p := 56) rfl (by decide) rfl (xsk (ly_ms32 L)) (xsn (ly_ms32 L) (show k < 60 by omega)) (by omega) ?_
      refine xk_inc1 rfl (p := 59) rfl (n := k) rfl (by omega) (ls' := [(2, ((292 : Nat) : Int)), (0, x), (0, y), (0, z), (0, ((k + 1 : Nat) : Int))]) rfl ?_
      refine xk_goto rfl ?_
      exact ih1 (by omega) (xupd m1 315 k (sVal m k)) (xupd u1 315 k (sVal m k)) (by exact h1_1.up) (by exact h1_2.up (by decide)) (by exact h1_3.up (by omega)) (by exact h1_4) (by exact h1_5) (by exact h1_6) (by exact fun q hq => dite (q = k) (fun cq => by subst cq; exact xupd_eq) (fun cq => (xupd_ne (by omega)).trans (h1_7 q (by omega))))
  exact lp1 0 (by omega) (xupd (xupd (xupd (xupd (xupd (xupd m 292 34 0) 292 35 0) 292 36 0) 292 33 (-5)) 292 38 y) 292 37 z) (xupd (xupd (xupd (xupd (xupd (xupd t 292 34 0) 292 35 0) 292 36 0) 292 33 (-5)) 292 38 y) 292 37 z) (by exact hM.up.up.up.up.up.up) (by exact ((((((Md.rf.up (by decide)).up (by decide)).up (by decide)).up (by decide)).up (by decide)).up (by decide))) (by exact ((((((Sy.rf.up (by omega)).up (by omega)).up (by omega)).up (by omega)).up (by omega)).up (by omega))) (by rfl) (by rfl) (by rfl) (by intro q hq; omega)

def y_orders (m : xD) (x : Int) : Int := if bSet m x = true then (exN m (-1) 0 x).1 else -1
def y_could (m : xD) (x y z : Int) : Int := if bSet m x = true ∧ (0 ≤ y ∧ y < m 292 0) then (if 0 ≤ z ∧ z ≤ 999 then (exN m y z x).2.1 else -2) else -1
def y_fits (m : xD) (x y : Int) : Int := if bSet m x = true ∧ (0 ≤ y ∧ y ≤ 1) then (if y = 0 then (exN m (-1) 0 x).2.2.1 else (exN m (-1) 0 x).2.2.2) else -1
theorem n_orders {d : Nat} {g : xG} {t m : xD} {x : Int} (L : xLay g) (hM : Mo t m) (hI : Inv m) (hx : xr32 x) : xCall (d + 14) 175 [(2, ((292 : Nat) : Int)), (0, x)] g t (sQ g t m (0, y_orders m x)) := by
  show xOk (d + 14) 175 0 [(2, ((292 : Nat) : Int)), (0, x)] [] g t _
  have iNn_ := iNn hI
  refine xk_load rfl (p := 1) rfl rfl ?_
  refine xk_load rfl (p := 2) rfl rfl ?_
  refine xk_callp rfl (p := 5) rfl (by decide) rfl (Nat.le_of_ble_eq_true rfl) (Nat.le_of_ble_eq_true rfl) (xrv (ly_m L) (by decide)) (as := [(2, ((292 : Nat) : Int)), (0, x)]) (r := []) rfl (v := (0, (if bSet m x = true then (1 : Int) else 0))) (n_isSet L hM hI hx) ?_
  have set_ := fun h => (bSet_iff (m := m) (x := x)).mp h
  refine xk_if rfl (p := 8) rfl (fun c5_1 => ?_) (fun c5_1 => ?_)
  · replace c5_1 : bSet m x = true := xb_n0 c5_1
    refine xk_load rfl (p := 11) rfl rfl ?_
    refine xk_load rfl (p := 12) rfl rfl ?_
    refine xk_push rfl (p := 13) rfl ?_
    refine xk_push rfl (p := 14) rfl ?_
    refine xk_call rfl (p := 17) rfl (by decide) rfl (Nat.le_of_ble_eq_true rfl) (Nat.le_of_ble_eq_true rfl) (xrv (ly_m L) (by decide)) (as := [(2, ((292 : Nat) : Int)), (0, x), (0, (-1)), (0, 0)]) (r := []) rfl (n_all (x := x) (y := (-1)) (z := 0) L hM hI (by assumption) (by omega)) ?_
    rintro _ g u9 ⟨rfl, rfl, hD9, m9, h9_1, h9_3, h9_4⟩
    refine xk_load rfl (p := 18) rfl rfl ?_
    refine xk_getf rfl (p := 21) rfl (xob (ly_m L) (by decide)) (v := (0, (exN m (-1) 0 x).1)) (xsl0 rfl ((h9_1 292 34 (by decide)).trans (congrArg (fun A : Acc => A.1) h9_4))) ?_
    refine xk_ret rfl (rfl) ?_
    exact ⟨rfl, congrArg (fun z => some ((0, z) : xV)) (by unfold y_orders; (repeat' split) <;> first | rfl | (exfalso; omega) | (exfalso; simp_all; done)), hD9, m9, h9_1, h9_3⟩
  · replace c5_1 : ¬ (bSet m x = true) := xb_e1 c5_1
    refine xk_push rfl (p := 9) rfl ?_
    refine xk_ret rfl (rfl) ?_
    exact ⟨rfl, congrArg (fun z => some ((0, z) : xV)) (by unfold y_orders; (repeat' split) <;> first | rfl | (exfalso; omega) | (exfalso; simp_all; done)), Md.rf, m, hM, Sy.rf⟩

theorem n_could {d : Nat} {g : xG} {t m : xD} {x y z : Int} (L : xLay g) (hM : Mo t m) (hI : Inv m) (hx : xr32 x) : xCall (d + 14) 176 [(2, ((292 : Nat) : Int)), (0, x), (0, y), (0, z)] g t (sQ g t m (0, y_could m x y z)) := by
  show xOk (d + 14) 176 0 [(2, ((292 : Nat) : Int)), (0, x), (0, y), (0, z)] [] g t _
  have iNn_ := iNn hI
  refine xk_load rfl (p := 1) rfl rfl ?_
  refine xk_load rfl (p := 2) rfl rfl ?_
  refine xk_callp rfl (p := 5) rfl (by decide) rfl (Nat.le_of_ble_eq_true rfl) (Nat.le_of_ble_eq_true rfl) (xrv (ly_m L) (by decide)) (as := [(2, ((292 : Nat) : Int)), (0, x)]) (r := []) rfl (v := (0, (if bSet m x = true then (1 : Int) else 0))) (n_isSet L hM hI hx) ?_
  have set_ := fun h => (bSet_iff (m := m) (x := x)).mp h
  refine xk_if rfl (p := 8) rfl (fun c5_1 => ?_) (fun c5_1 => ?_)
  · replace c5_1 : ¬ (bSet m x = true) := xb_e0 c5_1
    refine xk_push rfl (p := 17) rfl ?_
    refine xk_ret rfl (rfl) ?_
    exact ⟨rfl, congrArg (fun z => some ((0, z) : xV)) (by unfold y_could; (repeat' split) <;> first | rfl | (exfalso; omega) | (exfalso; simp_all; done)), Md.rf, m, hM, Sy.rf⟩
  · replace c5_1 : bSet m x = true := xb_n0 c5_1
    refine xk_load rfl (p := 9) rfl rfl ?_
    refine xk_load rfl (p := 10) rfl rfl ?_
    refine xk_callp rfl (p := 13) rfl (by decide) rfl (Nat.le_of_ble_eq_true rfl) (Nat.le_of_ble_eq_true rfl) (xrv (ly_m L) (by decide)) (as := [(2, ((292 : Nat) : Int)), (0, y)]) (r := []) rfl (v := (0, (if 0 ≤ y ∧ y < m 292 0 then (1 : Int) else 0))) (n_isName L hM hI) ?_
    have iNn_ := iNn hI
    refine xk_if rfl (p := 16) rfl (fun c13_2 => ?_) (fun c13_2 => ?_)
    · replace c13_2 : 0 ≤ y ∧ y < m 292 0 := xb_n0 c13_2
      refine xk_load rfl (p := 19) rfl rfl ?_
      refine xk_callp rfl (p := 22) rfl (by decide) rfl (Nat.le_of_ble_eq_true rfl) (Nat.le_of_ble_eq_true rfl) (rfl) (as := [(0, z)]) (r := []) rfl (v := (0, (if 0 ≤ z ∧ z ≤ 999 then (1 : Int) else 0))) (n_isValue) ?_
      refine xk_if rfl (p := 25) rfl (fun c22_3 => ?_) (fun c22_3 => ?_)
      · replace c22_3 : 0 ≤ z ∧ z ≤ 999 := xb_n0 c22_3
        refine xk_load rfl (p := 29) rfl rfl ?_
        refine xk_load rfl (p := 30) rfl rfl ?_
        refine xk_load rfl (p := 31) rfl rfl ?_
        refine xk_load rfl (p := 32) rfl rfl ?_
        refine xk_call rfl (p := 35) rfl (by decide) rfl (Nat.le_of_ble_eq_true rfl) (Nat.le_of_ble_eq_true rfl) (xrv (ly_m L) (by decide)) (as := [(2, ((292 : Nat) : Int)), (0, x), (0, y), (0, z)]) (r := []) rfl (n_all (x := x) (y := y) (z := z) L hM hI (by assumption) (by omega)) ?_
        rintro _ g u9 ⟨rfl, rfl, hD9, m9, h9_1, h9_3, h9_4⟩
        refine xk_load rfl (p := 36) rfl rfl ?_
        refine xk_getf rfl (p := 39) rfl (xob (ly_m L) (by decide)) (v := (0, (exN m y z x).2.1)) (xsl0 rfl ((h9_1 292 35 (by decide)).trans (congrArg (fun A : Acc => A.2.1) h9_4))) ?_
        refine xk_ret rfl (rfl) ?_
        exact ⟨rfl, congrArg (fun z => some ((0, z) : xV)) (by unfold y_could; (repeat' split) <;> first | rfl | (exfalso; omega) | (exfalso; simp_all; done)), hD9, m9, h9_1, h9_3⟩
      · replace c22_3 : ¬ (0 ≤ z ∧ z ≤ 999) := xb_e1 c22_3
        refine xk_push rfl (p := 27) rfl ?_
        refine xk_ret rfl (rfl) ?_
        exact ⟨rfl, congrArg (fun z => some ((0, z) : xV)) (by unfold y_could; (repeat' split) <;> first | rfl | (exfalso; omega) | (exfalso; simp_all; done)), Md.rf, m, hM, Sy.rf⟩
    · replace c13_2 : ¬ (0 ≤ y ∧ y < m 292 0) := xb_e1 c13_2
      refine xk_push rfl (p := 17) rfl ?_
      refine xk_ret rfl (rfl) ?_
      exact ⟨rfl, congrArg (fun z => some ((0, z) : xV)) (by unfold y_could; (repeat' split) <;> first | rfl | (exfalso; omega) | (exfalso; simp_all; done)), Md.rf, m, hM, Sy.rf⟩

theorem n_fits {d : Nat} {g : xG} {t m : xD} {x y : Int} (L : xLay g) (hM : Mo t m) (hI : Inv m) (hx : xr32 x) : xCall (d + 14) 178 [(2, ((292 : Nat) : Int)), (0, x), (0, y)] g t (sQ g t m (0, y_fits m x y)) := by
  show xOk (d + 14) 178 0 [(2, ((292 : Nat) : Int)), (0, x), (0, y)] [] g t _
  have iNn_ := iNn hI
  refine xk_load rfl (p := 1) rfl rfl ?_
  refine xk_load rfl (p := 2) rfl rfl ?_
  refine xk_callp rfl (p := 5) rfl (by decide) rfl (Nat.le_of_ble_eq_true rfl) (Nat.le_of_ble_eq_true rfl) (xrv (ly_m L) (by decide)) (as := [(2, ((292 : Nat) : Int)), (0, x)]) (r := []) rfl (v := (0, (if bSet m x = true then (1 : Int) else 0))) (n_isSet L hM hI hx) ?_
  have set_ := fun h => (bSet_iff (m := m) (x := x)).mp h
  refine xk_if rfl (p := 8) rfl (fun c5_1 => ?_) (fun c5_1 => ?_)
  · replace c5_1 : ¬ (bSet m x = true) := xb_e0 c5_1
    refine xk_push rfl (p := 18) rfl ?_
    refine xk_ret rfl (rfl) ?_
    exact ⟨rfl, congrArg (fun z => some ((0, z) : xV)) (by unfold y_fits; (repeat' split) <;> first | rfl | (exfalso; omega) | (exfalso; simp_all; done)), Md.rf, m, hM, Sy.rf⟩
  · replace c5_1 : bSet m x = true := xb_n0 c5_1
    refine xk_load rfl (p := 9) rfl rfl ?_
    refine xk_push rfl (p := 10) rfl ?_
    refine xk_push rfl (p := 11) rfl ?_
    refine xk_callp rfl (p := 14) rfl (by decide) rfl (Nat.le_of_ble_eq_true rfl) (Nat.le_of_ble_eq_true rfl) (rfl) (as := [(0, y), (0, 0), (0, 1)]) (r := []) rfl (v := (0, (if 0 ≤ y ∧ y ≤ 1 then (1 : Int) else 0))) (n_within) ?_
    refine xk_if rfl (p := 17) rfl (fun c14_2 => ?_) (fun c14_2 => ?_)
    · replace c14_2 : 0 ≤ y ∧ y ≤ 1 := xb_n0 c14_2
      refine xk_load rfl (p := 20) rfl rfl ?_
      refine xk_load rfl (p := 21) rfl rfl ?_
      refine xk_push rfl (p := 22) rfl ?_
      refine xk_push rfl (p := 23) rfl ?_
      refine xk_call rfl (p := 26) rfl (by decide) rfl (Nat.le_of_ble_eq_true rfl) (Nat.le_of_ble_eq_true rfl) (xrv (ly_m L) (by decide)) (as := [(2, ((292 : Nat) : Int)), (0, x), (0, (-1)), (0, 0)]) (r := []) rfl (n_all (x := x) (y := (-1)) (z := 0) L hM hI (by assumption) (by omega)) ?_
      rintro _ g u9 ⟨rfl, rfl, hD9, m9, h9_1, h9_3, h9_4⟩
      refine xk_load rfl (p := 27) rfl rfl ?_
      refine xk_if rfl (p := 30) rfl (fun c27_3 => ?_) (fun c27_3 => ?_)
      · replace c27_3 : ¬ (y = 0) := c27_3
        refine xk_load rfl (p := 38) rfl rfl ?_
        refine xk_getf rfl (p := 41) rfl (xob (ly_m L) (by decide)) (v := (0, (exN m (-1) 0 x).2.2.2)) (xsl0 rfl ((h9_1 292 33 (by decide)).trans (congrArg (fun A : Acc => A.2.2.2) h9_4))) ?_
        refine xk_ret rfl (rfl) ?_
        exact ⟨rfl, congrArg (fun z => some ((0, z) : xV)) (by unfold y_fits; (repeat' split) <;> first | rfl | (exfalso; omega) | (exfalso; simp_all; done)), hD9, m9, h9_1, h9_3⟩
      · replace c27_3 : y = 0 := Decidable.not_not.mp c27_3
        refine xk_load rfl (p := 31) rfl rfl ?_
        refine xk_getf rfl (p := 34) rfl (xob (ly_m L) (by decide)) (v := (0, (exN m (-1) 0 x).2.2.1)) (xsl0 rfl ((h9_1 292 36 (by decide)).trans (congrArg (fun A : Acc => A.2.2.1) h9_4))) ?_
        refine xk_goto rfl ?_
        refine xk_ret rfl (rfl) ?_
        exact ⟨rfl, congrArg (fun z => some ((0, z) : xV)) (by unfold y_fits; (repeat' split) <;> first | rfl | (exfalso; omega) | (exfalso; simp_all; done)), hD9, m9, h9_1, h9_3⟩
    · replace c14_2 : ¬ (0 ≤ y ∧ y ≤ 1) := xb_e1 c14_2
      refine xk_push rfl (p := 18) rfl ?_
      refine xk_ret rfl (rfl) ?_
      exact ⟨rfl, congrArg (fun z => some ((0, z) : xV)) (by unfold y_fits; (repeat' split) <;> first | rfl | (exfalso; omega) | (exfalso; simp_all; done)), Md.rf, m, hM, Sy.rf⟩
