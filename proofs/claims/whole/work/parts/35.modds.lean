/-! THE MODEL: ODDS, MEAN, MOST, STATE -/
def sGcd (a b : Int) : Int := ((Nat.gcd a.toNat b.toNat : Nat) : Int)
def sPt (a b p : Int) : Int := xldiv (if p = 0 then a else b) (sGcd a b)
theorem xldiv_n {x y : Int} (h0 : 0 ≤ x) (h1 : x < 100000) (h2 : 0 < y) (h3 : y < 100000) : Int64.ofInt x / Int64.ofInt y = Int64.ofInt (x.tdiv y) := by
  have hq : 0 ≤ x.tdiv y ∧ x.tdiv y ≤ x := by
    rw [Int.tdiv_eq_ediv_of_nonneg h0]
    exact ⟨Int.ediv_nonneg h0 (by omega), Int.ediv_le_self y h0⟩
  apply Int64.toInt.inj
  rw [Int64.toInt_div, i64_rt (by omega) (by omega), i64_rt (by omega) (by omega), i64_rt (by omega) (by omega)]
  exact Int.bmod_eq_of_le (by omega) (by omega)
theorem xlrem_n {x y : Int} (h0 : 0 ≤ x) (h1 : x < 100000) (h2 : 0 < y) (h3 : y < 100000) : xlrem x y = ((x.toNat % y.toNat : Nat) : Int) := by
  have hm : x.tdiv y * y ≤ x ∧ 0 ≤ x.tdiv y * y := by
    rw [Int.tdiv_eq_ediv_of_nonneg h0]
    exact ⟨Int.ediv_mul_le x (by omega), Int.mul_nonneg (Int.ediv_nonneg h0 (by omega)) (by omega)⟩
  unfold xlrem
  rw [xldiv_n h0 h1 h2 h3, ← Int64.ofInt_mul, ← Int64.ofInt_sub, i64_rt (by omega) (by omega), Int.tdiv_eq_ediv_of_nonneg h0]
  have := Int.emod_add_mul_ediv x y
  have h4 : x % y = ((x.toNat % y.toNat : Nat) : Int) := by
    rw [Int.natCast_emod, Int.toNat_of_nonneg h0, Int.toNat_of_nonneg (by omega)]
  rw [← h4, Int.mul_comm]
  omega
theorem n_part {d : Nat} {g : xG} {t m : xD} {a b p : Int} (L : xLay g) (h1 : 0 ≤ a) (h2 : a < 100000) (h3 : 0 < b) (h4 : b < 400) : xCall (d + 1) 179 [(1, a), (1, b), (0, p)] g t (xQ g t (some (1, sPt a b p))) := by
  show xOk (d + 1) 179 0 [(1, a), (3, 0), (1, b), (3, 0), (0, p), (3, 0), (3, 0), (3, 0), (3, 0), (3, 0), (3, 0)] [] g t _
  refine xk_load rfl (p := 1) rfl rfl ?_
  refine xk_abs rfl (p := 4) rfl (Nat.le_of_ble_eq_true rfl) ?_
  refine xk_top (show ((1, (if 0 < a then a else xlneg a)) : xV) = (1, a) from congrArg (fun z => ((1, z) : xV)) ((dite (0 < a) (fun c => if_pos c) (fun c => (if_neg c).trans (by rw [show a = 0 by omega]; rfl))))) ?_
  refine xk_storel rfl (p := 6) rfl (Nat.le_of_ble_eq_true rfl) (ls' := [(1, a), (3, 0), (1, b), (3, 0), (0, p), (1, a), (3, 0), (3, 0), (3, 0), (3, 0), (3, 0)]) rfl ?_
  refine xk_load rfl (p := 7) rfl rfl ?_
  refine xk_storel rfl (p := 9) rfl (Nat.le_of_ble_eq_true rfl) (ls' := [(1, a), (3, 0), (1, b), (3, 0), (0, p), (1, a), (3, 0), (1, b), (3, 0), (3, 0), (3, 0)]) rfl ?_
  have lp1 : ∀ k : Nat, k ≤ 400 → ∀ (x : Int) (y : Int) (w9 : xV), (0 ≤ x ∧ x < 100000) → (0 ≤ y ∧ y < 400) → (y + k ≤ 400) → (Nat.gcd x.toNat y.toNat = Nat.gcd a.toNat b.toNat) → (0 < x ∨ 0 < y) → xOk (d + 1) 179 9 [(1, a), (3, 0), (1, b), (3, 0), (0, p), (1, x), (3, 0), (1, y), (3, 0), w9, (3, 0)] [] g t (xQ g t (some (1, sPt a b p))) := by
    refine xk_up 400 (fun k hkk ih1 x y w9 hi1 hi2 hi3 hi4 hi5 => ?_)
    refine xk_load rfl (p := 11) rfl rfl ?_
    refine xk_push rfl (p := 12) rfl ?_
    refine xk_lbin rfl (p := 13) rfl rfl (w := (0, xlcmp y 0)) (rfl) ?_
    have xl := @xlcmp_c y 0
    refine xk_if rfl (p := 16) rfl (fun c13_2 => ?_) (fun c13_2 => ?_)
    · replace c13_2 : xlcmp y 0 = 0 := c13_2
      refine xk_load rfl (p := 36) rfl rfl ?_
      refine xk_if rfl (p := 39) rfl (fun c36_3 => ?_) (fun c36_3 => ?_)
      · replace c36_3 : ¬ (p = 0) := c36_3
        refine xk_load rfl (p := 44) rfl rfl ?_
        refine xk_load rfl (p := 46) rfl rfl ?_
        refine xk_lbin rfl (p := 47) rfl rfl (w := (1, xldiv b x)) (if_neg (by omega)) ?_
        refine xk_rete rfl (rfl) ?_
        have e : x = sGcd a b := by unfold sGcd; rw [← hi4, show y.toNat = 0 by omega, Nat.gcd_zero_right]; omega
        rw [e]
        unfold sPt
        first | rw [if_pos (by assumption)] | rw [if_neg (by assumption)]
      · replace c36_3 : p = 0 := Decidable.not_not.mp c36_3
        refine xk_load rfl (p := 40) rfl rfl ?_
        refine xk_goto rfl ?_
        refine xk_load rfl (p := 46) rfl rfl ?_
        refine xk_lbin rfl (p := 47) rfl rfl (w := (1, xldiv a x)) (if_neg (by omega)) ?_
        refine xk_rete rfl (rfl) ?_
        have e : x = sGcd a b := by unfold sGcd; rw [← hi4, show y.toNat = 0 by omega, Nat.gcd_zero_right]; omega
        rw [e]
        unfold sPt
        first | rw [if_pos (by assumption)] | rw [if_neg (by assumption)]
    · replace c13_2 : ¬ (xlcmp y 0 = 0) := c13_2
      refine xk_load rfl (p := 18) rfl rfl ?_
      refine xk_load rfl (p := 20) rfl rfl ?_
      refine xk_lbin rfl (p := 21) rfl rfl (w := (1, xlrem x y)) (if_neg (by omega)) ?_
      have hr1 := xlrem_n (x := x) (y := y) (by omega) (by omega) (by omega) (by omega)
      have hr2 := Nat.mod_lt x.toNat (y := y.toNat) (by omega)
      refine xk_storel rfl (p := 23) rfl (Nat.le_of_ble_eq_true rfl) (ls' := [(1, a), (3, 0), (1, b), (3, 0), (0, p), (1, x), (3, 0), (1, y), (3, 0), (1, xlrem x y), (3, 0)]) rfl ?_
      refine xk_load rfl (p := 25) rfl rfl ?_
      refine xk_storel rfl (p := 27) rfl (Nat.le_of_ble_eq_true rfl) (ls' := [(1, a), (3, 0), (1, b), (3, 0), (0, p), (1, y), (3, 0), (1, y), (3, 0), (1, xlrem x y), (3, 0)]) rfl ?_
      refine xk_load rfl (p := 29) rfl rfl ?_
      refine xk_storel rfl (p := 31) rfl (Nat.le_of_ble_eq_true rfl) (ls' := [(1, a), (3, 0), (1, b), (3, 0), (0, p), (1, y), (3, 0), (1, xlrem x y), (3, 0), (1, xlrem x y), (3, 0)]) rfl ?_
      refine xk_goto rfl ?_
      exact ih1 (by omega) y (xlrem x y) (1, xlrem x y) (by omega) (by omega) (by omega) (by rw [hr1, Int.toNat_natCast, Nat.gcd_comm, ← Nat.gcd_rec, Nat.gcd_comm]; exact hi4) (by omega)
  exact lp1 0 (by omega) a b (3, 0) (by omega) (by omega) (by omega) (by rfl) (by omega)

def pw4 : Nat → Int
  | 0 => 1
  | n + 1 => 4 * pw4 n
theorem pw4_pos : ∀ n, 1 ≤ pw4 n
  | 0 => by decide
  | n + 1 => by
    have := pw4_pos n
    show 1 ≤ 4 * pw4 n
    omega
theorem lfA_bd {m : xD} {a w g : Int} {f : Nat → Int} {A : Acc} (h0 : 0 ≤ A.2.1) (h1 : A.2.1 ≤ A.1) (h2 : A.1 ≤ 100000) : A.1 ≤ (lfA m a w f g A).1 ∧ (lfA m a w f g A).1 ≤ A.1 + 1 ∧ 0 ≤ (lfA m a w f g A).2.1 ∧ (lfA m a w f g A).2.1 ≤ (lfA m a w f g A).1 := by
  have e1 : xadd A.1 1 = A.1 + 1 := xadd_r (by omega) (by omega)
  have e2 : xadd A.2.1 1 = A.2.1 + 1 := xadd_r (by omega) (by omega)
  show A.1 ≤ xadd A.1 1 ∧ xadd A.1 1 ≤ A.1 + 1 ∧ 0 ≤ (if ¬ a = -1 ∧ f a.toNat = w then xadd A.2.1 1 else A.2.1) ∧ (if ¬ a = -1 ∧ f a.toNat = w then xadd A.2.1 1 else A.2.1) ≤ xadd A.1 1
  rw [e1, e2]
  split <;> omega
theorem exG_s {α : Type} {go : Nat → (Nat → Int) → Bool} {up : Nat → (Nat → Int) → Nat → Int} {node : Nat → α → α} {leaf : (Nat → Int) → Int → α → α} {n l : Nat} {f : Nat → Int} {g : Int} {A : α} (h : ¬ l = 0) : exG go up node leaf (n + 1) l f g A = fold4 (fun d B => if l.testBit d = true ∧ go d f = true then exG go up node leaf n (xdf l (2 ^ d)) (up d f) (xadd (xadd (xmul 10 g) ((d : Nat) : Int)) 1) B else B) 4 (node l A) := by
  show fold4 _ 4 (if l = 0 then leaf f g (node l A) else node l A) = _
  rw [if_neg h]
theorem fold4_inv {α : Type} {s : Nat → α → α} {A : α} {P : Nat → α → Prop} (h0 : P 0 A) (hs : ∀ k B, k < 4 → P k B → P (k + 1) (s k B)) : ∀ k, k ≤ 4 → P k (fold4 s k A)
  | 0, _ => h0
  | k + 1, h => hs k _ (by omega) (fold4_inv h0 hs k (by omega))
theorem exA_bd {m : xD} {a w : Int} : ∀ (n l : Nat) (f : Nat → Int) (g : Int) (A : Acc), 0 ≤ A.2.1 → A.2.1 ≤ A.1 → A.1 + pw4 n ≤ 100000 → A.1 ≤ (exA m a w n l f g A).1 ∧ (exA m a w n l f g A).1 ≤ A.1 + pw4 n ∧ 0 ≤ (exA m a w n l f g A).2.1 ∧ (exA m a w n l f g A).2.1 ≤ (exA m a w n l f g A).1
  | 0, l, f, g, A, h0, h1, h2 => by
    have hp : pw4 0 = 1 := rfl
    show A.1 ≤ (if l = 0 then lfA m a w f g A else A).1 ∧ (if l = 0 then lfA m a w f g A else A).1 ≤ A.1 + pw4 0 ∧ 0 ≤ (if l = 0 then lfA m a w f g A else A).2.1 ∧ (if l = 0 then lfA m a w f g A else A).2.1 ≤ (if l = 0 then lfA m a w f g A else A).1
    split
    · have := lfA_bd (m := m) (a := a) (w := w) (f := f) (g := g) h0 h1 (by omega)
      omega
    · omega
  | n + 1, l, f, g, A, h0, h1, h2 => by
    have hp := pw4_pos n
    have hq : pw4 (n + 1) = 4 * pw4 n := rfl
    by_cases c : l = 0
    · subst c
      rw [show exA m a w (n + 1) 0 f g A = lfA m a w f g A from exG_0]
      have := lfA_bd (m := m) (a := a) (w := w) (f := f) (g := g) h0 h1 (by omega)
      omega
    · have e : exA m a w (n + 1) l f g A = fold4 (fun d B => if l.testBit d = true ∧ bGo m d f = true then exA m a w n (xdf l (2 ^ d)) (fUp m d f) (xadd (xadd (xmul 10 g) ((d : Nat) : Int)) 1) B else B) 4 A := exG_s c
      rw [e]
      have key := fold4_inv (s := fun d B => if l.testBit d = true ∧ bGo m d f = true then exA m a w n (xdf l (2 ^ d)) (fUp m d f) (xadd (xadd (xmul 10 g) ((d : Nat) : Int)) 1) B else B) (A := A) (P := fun k B => A.1 ≤ B.1 ∧ B.1 ≤ A.1 + (k : Int) * pw4 n ∧ 0 ≤ B.2.1 ∧ B.2.1 ≤ B.1) ⟨by omega, by omega, h0, h1⟩ (fun k B hk i => by
        show A.1 ≤ (if l.testBit k = true ∧ bGo m k f = true then exA m a w n (xdf l (2 ^ k)) (fUp m k f) (xadd (xadd (xmul 10 g) ((k : Nat) : Int)) 1) B else B).1 ∧ _
        have i1 := i.1
        have i2 := i.2.1
        have i3 := i.2.2
        by_cases c2 : l.testBit k = true ∧ bGo m k f = true
        · simp only [if_pos c2]
          rcases (by omega : k = 0 ∨ k = 1 ∨ k = 2 ∨ k = 3) with rfl | rfl | rfl | rfl
          · have := exA_bd (m := m) (a := a) (w := w) n (xdf l (2 ^ 0)) (fUp m 0 f) (xadd (xadd (xmul 10 g) ((0 : Nat) : Int)) 1) B (by omega) (by omega) (by omega)
            omega
          · have := exA_bd (m := m) (a := a) (w := w) n (xdf l (2 ^ 1)) (fUp m 1 f) (xadd (xadd (xmul 10 g) ((1 : Nat) : Int)) 1) B (by omega) (by omega) (by omega)
            omega
          · have := exA_bd (m := m) (a := a) (w := w) n (xdf l (2 ^ 2)) (fUp m 2 f) (xadd (xadd (xmul 10 g) ((2 : Nat) : Int)) 1) B (by omega) (by omega) (by omega)
            omega
          · have := exA_bd (m := m) (a := a) (w := w) n (xdf l (2 ^ 3)) (fUp m 3 f) (xadd (xadd (xmul 10 g) ((3 : Nat) : Int)) 1) B (by omega) (by omega) (by omega)
            omega
        · simp only [if_neg c2]
          rcases (by omega : k = 0 ∨ k = 1 ∨ k = 2 ∨ k = 3) with rfl | rfl | rfl | rfl <;> omega) 4 (Nat.le_refl 4)
      have k1 := key.1
      have k2 := key.2.1
      have k3 := key.2.2
      omega
theorem exN_bd {m : xD} {a w x : Int} : 0 ≤ (exN m a w x).1 ∧ (exN m a w x).1 ≤ 256 ∧ 0 ≤ (exN m a w x).2.1 ∧ (exN m a w x).2.1 ≤ (exN m a w x).1 := by
  have := exA_bd (m := m) (a := a) (w := w) 4 x.toNat (sVal m) 0 (0, 0, 0, -5) (by decide) (by decide) (by decide)
  have e : pw4 4 = 256 := rfl
  rw [e] at this
  have k1 : (0 : Int) ≤ (exN m a w x).1 := this.1
  have k2 : (exN m a w x).1 ≤ 0 + 256 := this.2.1
  have k3 : 0 ≤ (exN m a w x).2.1 := this.2.2.1
  have k4 : (exN m a w x).2.1 ≤ (exN m a w x).1 := this.2.2.2
  omega
def y_odds (m : xD) (x y z w : Int) : Int := if bSet m x = true ∧ (0 ≤ y ∧ y < m 292 0) ∧ (0 ≤ z ∧ z ≤ 999) ∧ (0 ≤ w ∧ w ≤ 1) then (if (exN m y z x).1 = 0 then (-9223372036854775808) else sPt (exN m y z x).2.1 (exN m y z x).1 w) else (-9223372036854775808)
theorem n_odds {d : Nat} {g : xG} {t m : xD} {x y z w : Int} (L : xLay g) (hM : Mo t m) (hI : Inv m) (hx : xr32 x) : xCall (d + 14) 180 [(2, ((292 : Nat) : Int)), (0, x), (0, y), (0, z), (0, w)] g t (sQ g t m (1, y_odds m x y z w)) := by
  show xOk (d + 14) 180 0 [(2, ((292 : Nat) : Int)), (0, x), (0, y), (0, z), (0, w)] [] g t _
  have iNn_ := iNn hI
  refine xk_load rfl (p := 1) rfl rfl ?_
  refine xk_load rfl (p := 2) rfl rfl ?_
  refine xk_callp rfl (p := 5) rfl (by decide) rfl (Nat.le_of_ble_eq_true rfl) (Nat.le_of_ble_eq_true rfl) (xrv (ly_m L) (by decide)) (as := [(2, ((292 : Nat) : Int)), (0, x)]) (r := []) rfl (v := (0, (if bSet m x = true then (1 : Int) else 0))) (n_isSet L hM hI hx) ?_
  have set_ := fun h => (bSet_iff (m := m) (x := x)).mp h
  refine xk_if rfl (p := 8) rfl (fun c5_1 => ?_) (fun c5_1 => ?_)
  · replace c5_1 : ¬ (bSet m x = true) := xb_e0 c5_1
    refine xk_push rfl (p := 36) rfl ?_
    refine xk_ret rfl (rfl) ?_
    exact ⟨rfl, congrArg (fun z => some ((1, z) : xV)) (by unfold y_odds; (repeat' split) <;> first | rfl | (exfalso; omega) | (exfalso; simp_all; done)), Md.rf, m, hM, Sy.rf⟩
  · replace c5_1 : bSet m x = true := xb_n0 c5_1
    refine xk_load rfl (p := 9) rfl rfl ?_
    refine xk_load rfl (p := 10) rfl rfl ?_
    refine xk_callp rfl (p := 13) rfl (by decide) rfl (Nat.le_of_ble_eq_true rfl) (Nat.le_of_ble_eq_true rfl) (xrv (ly_m L) (by decide)) (as := [(2, ((292 : Nat) : Int)), (0, y)]) (r := []) rfl (v := (0, (if 0 ≤ y ∧ y < m 292 0 then (1 : Int) else 0))) (n_isName L hM hI) ?_
    have iNn_ := iNn hI
    refine xk_if rfl (p := 16) rfl (fun c13_2 => ?_) (fun c13_2 => ?_)
    · replace c13_2 : ¬ (0 ≤ y ∧ y < m 292 0) := xb_e0 c13_2
      refine xk_push rfl (p := 36) rfl ?_
      refine xk_ret rfl (rfl) ?_
      exact ⟨rfl, congrArg (fun z => some ((1, z) : xV)) (by unfold y_odds; (repeat' split) <;> first | rfl | (exfalso; omega) | (exfalso; simp_all; done)), Md.rf, m, hM, Sy.rf⟩
    · replace c13_2 : 0 ≤ y ∧ y < m 292 0 := xb_n0 c13_2
      refine xk_load rfl (p := 17) rfl rfl ?_
      refine xk_callp rfl (p := 20) rfl (by decide) rfl (Nat.le_of_ble_eq_true rfl) (Nat.le_of_ble_eq_true rfl) (rfl) (as := [(0, z)]) (r := []) rfl (v := (0, (if 0 ≤ z ∧ z ≤ 999 then (1 : Int) else 0))) (n_isValue) ?_
      refine xk_if rfl (p := 23) rfl (fun c20_3 => ?_) (fun c20_3 => ?_)
      · replace c20_3 : ¬ (0 ≤ z ∧ z ≤ 999) := xb_e0 c20_3
        refine xk_push rfl (p := 36) rfl ?_
        refine xk_ret rfl (rfl) ?_
        exact ⟨rfl, congrArg (fun z => some ((1, z) : xV)) (by unfold y_odds; (repeat' split) <;> first | rfl | (exfalso; omega) | (exfalso; simp_all; done)), Md.rf, m, hM, Sy.rf⟩
      · replace c20_3 : 0 ≤ z ∧ z ≤ 999 := xb_n0 c20_3
        refine xk_load rfl (p := 25) rfl rfl ?_
        refine xk_push rfl (p := 26) rfl ?_
        refine xk_push rfl (p := 27) rfl ?_
        refine xk_callp rfl (p := 30) rfl (by decide) rfl (Nat.le_of_ble_eq_true rfl) (Nat.le_of_ble_eq_true rfl) (rfl) (as := [(0, w), (0, 0), (0, 1)]) (r := []) rfl (v := (0, (if 0 ≤ w ∧ w ≤ 1 then (1 : Int) else 0))) (n_within) ?_
        refine xk_if rfl (p := 33) rfl (fun c30_4 => ?_) (fun c30_4 => ?_)
        · replace c30_4 : 0 ≤ w ∧ w ≤ 1 := xb_n0 c30_4
          refine xk_load rfl (p := 38) rfl rfl ?_
          refine xk_load rfl (p := 39) rfl rfl ?_
          refine xk_load rfl (p := 40) rfl rfl ?_
          refine xk_load rfl (p := 41) rfl rfl ?_
          refine xk_call rfl (p := 44) rfl (by decide) rfl (Nat.le_of_ble_eq_true rfl) (Nat.le_of_ble_eq_true rfl) (xrv (ly_m L) (by decide)) (as := [(2, ((292 : Nat) : Int)), (0, x), (0, y), (0, z)]) (r := []) rfl (n_all (x := x) (y := y) (z := z) L hM hI (by assumption) (by omega)) ?_
          rintro _ g u9 ⟨rfl, rfl, hD9, m9, h9_1, h9_3, h9_4⟩
          refine xk_load rfl (p := 45) rfl rfl ?_
          have bd_ := @exN_bd m y z x
          refine xk_getf rfl (p := 48) rfl (xob (ly_m L) (by decide)) (v := (0, (exN m y z x).1)) (xsl0 rfl ((h9_1 292 34 (by decide)).trans (congrArg (fun A : Acc => A.1) h9_4))) ?_
          refine xk_if rfl (p := 51) rfl (fun c48_5 => ?_) (fun c48_5 => ?_)
          · replace c48_5 : ¬ ((exN m y z x).1 = 0) := c48_5
            refine xk_load rfl (p := 58) rfl rfl ?_
            refine xk_getf rfl (p := 61) rfl (xob (ly_m L) (by decide)) (v := (0, (exN m y z x).2.1)) (xsl0 rfl ((h9_1 292 35 (by decide)).trans (congrArg (fun A : Acc => A.2.1) h9_4))) ?_
            refine xk_un rfl (p := 62) rfl (w := (1, (exN m y z x).2.1)) (rfl) ?_
            refine xk_load rfl (p := 63) rfl rfl ?_
            refine xk_getf rfl (p := 66) rfl (xob (ly_m L) (by decide)) (v := (0, (exN m y z x).1)) (xsl0 rfl ((h9_1 292 34 (by decide)).trans (congrArg (fun A : Acc => A.1) h9_4))) ?_
            refine xk_un rfl (p := 67) rfl (w := (1, (exN m y z x).1)) (rfl) ?_
            refine xk_load rfl (p := 69) rfl rfl ?_
            refine xk_callp rfl (p := 72) rfl (by decide) rfl (Nat.le_of_ble_eq_true rfl) (Nat.le_of_ble_eq_true rfl) (rfl) (as := [(1, (exN m y z x).2.1), (1, (exN m y z x).1), (0, w)]) (r := []) rfl (v := (1, sPt ((exN m y z x).2.1) ((exN m y z x).1) w)) (n_part (m := m) L (by omega) (by omega) (by omega) (by omega)) ?_
            refine xk_ret rfl (rfl) ?_
            exact ⟨rfl, congrArg (fun z => some ((1, z) : xV)) (by unfold y_odds; (repeat' split) <;> first | rfl | (exfalso; omega) | (exfalso; simp_all; done)), hD9, m9, h9_1, h9_3⟩
          · replace c48_5 : (exN m y z x).1 = 0 := Decidable.not_not.mp c48_5
            refine xk_push rfl (p := 54) rfl ?_
            refine xk_goto rfl ?_
            refine xk_ret rfl (rfl) ?_
            exact ⟨rfl, congrArg (fun z => some ((1, z) : xV)) (by unfold y_odds; (repeat' split) <;> first | rfl | (exfalso; omega) | (exfalso; simp_all; done)), hD9, m9, h9_1, h9_3⟩
        · replace c30_4 : ¬ (0 ≤ w ∧ w ≤ 1) := xb_e1 c30_4
          refine xk_push rfl (p := 36) rfl ?_
          refine xk_ret rfl (rfl) ?_
          exact ⟨rfl, congrArg (fun z => some ((1, z) : xV)) (by unfold y_odds; (repeat' split) <;> first | rfl | (exfalso; omega) | (exfalso; simp_all; done)), Md.rf, m, hM, Sy.rf⟩

theorem xsum_bd {m : xD} (hI : Inv m) : ∀ k, k ≤ nN m → xsum (fun n => nJ m n) k ≤ 6 * k
  | 0, _ => Nat.le_refl 0
  | k + 1, h => by
    have := xsum_bd hI k (by omega)
    have := iJn hI (n := k) (by omega)
    show xsum _ k + nJ m k ≤ _
    omega
def y_mean (m : xD) (w : Int) : Int := if (0 ≤ w ∧ w ≤ 1) ∧ ¬ nN m = 0 then sPt ((xsum (fun n => nJ m n) (nN m) : Nat) : Int) ((nN m : Nat) : Int) w else (-9223372036854775808)
theorem n_mean {d : Nat} {g : xG} {t m : xD} {w : Int} (L : xLay g) (hM : Mo t m) (hI : Inv m) : xCall (d + 2) 181 [(2, ((292 : Nat) : Int)), (0, w)] g t (xQ g t (some (1, y_mean m w))) := by
  show xOk (d + 2) 181 0 [(2, ((292 : Nat) : Int)), (0, w), (3, 0), (3, 0)] [] g t _
  have iNn_ := iNn hI
  refine xk_load rfl (p := 1) rfl rfl ?_
  refine xk_push rfl (p := 2) rfl ?_
  refine xk_push rfl (p := 3) rfl ?_
  refine xk_callp rfl (p := 6) rfl (by decide) rfl (Nat.le_of_ble_eq_true rfl) (Nat.le_of_ble_eq_true rfl) (rfl) (as := [(0, w), (0, 0), (0, 1)]) (r := []) rfl (v := (0, (if 0 ≤ w ∧ w ≤ 1 then (1 : Int) else 0))) (n_within) ?_
  refine xk_if rfl (p := 9) rfl (fun c6_1 => ?_) (fun c6_1 => ?_)
  · replace c6_1 : ¬ (0 ≤ w ∧ w ≤ 1) := xb_e0 c6_1
    refine xk_push rfl (p := 19) rfl ?_
    refine xk_rete rfl (rfl) ?_
    exact (if_neg (by omega)).symm
  · replace c6_1 : 0 ≤ w ∧ w ≤ 1 := xb_n0 c6_1
    refine xk_load rfl (p := 10) rfl rfl ?_
    refine xk_getf rfl (p := 13) rfl (xob (ly_m L) (by decide)) (v := (0, ((nN m : Nat) : Int))) (xsl0 rfl ((hM 292 0 (by decide)).trans (iNn hI).1)) ?_
    have iNn_ := iNn hI
    refine xk_if rfl (p := 16) rfl (fun c13_2 => ?_) (fun c13_2 => ?_)
    · replace c13_2 : ¬ (((nN m : Nat) : Int) = 0) := c13_2
      refine xk_push rfl (p := 21) rfl ?_
      refine xk_store rfl (p := 22) rfl (by decide) (Nat.le_of_ble_eq_true rfl) (ls' := [(2, ((292 : Nat) : Int)), (0, w), (0, 0), (3, 0)]) rfl ?_
      refine xk_push rfl (p := 23) rfl ?_
      refine xk_store rfl (p := 24) rfl (by decide) (Nat.le_of_ble_eq_true rfl) (ls' := [(2, ((292 : Nat) : Int)), (0, w), (0, 0), (0, 0)]) rfl ?_
      have lp3 : ∀ k : Nat, k ≤ nN m → ∀ (z : Nat), (z = xsum (fun n => nJ m n) k) → xOk (d + 2) 181 24 [(2, ((292 : Nat) : Int)), (0, w), (0, ((z : Nat) : Int)), (0, ((k : Nat) : Int))] [] g t (xQ g t (some (1, y_mean m w))) := by
        refine xk_up (nN m) (fun k hkk ih3 z hi1 => ?_)
        have sb_ := xsum_bd hI k hkk
        rw [← hi1] at sb_
        refine xk_load rfl (p := 25) rfl rfl ?_
        refine xk_load rfl (p := 26) rfl rfl ?_
        refine xk_getf rfl (p := 29) rfl (xob (ly_m L) (by decide)) (v := (0, ((nN m : Nat) : Int))) (xsl0 rfl ((hM 292 0 (by decide)).trans (iNn hI).1)) ?_
        have iNn_ := iNn hI
        refine xk_icmp rfl (p := 32) rfl (fun c29_4 => ?_) (fun c29_4 => ?_)
        · replace c29_4 : ((nN m : Nat) : Int) ≤ ((k : Nat) : Int) := c29_4
          refine xk_load rfl (p := 48) rfl rfl ?_
          refine xk_un rfl (p := 49) rfl (w := (1, ((z : Nat) : Int))) (rfl) ?_
          refine xk_load rfl (p := 50) rfl rfl ?_
          refine xk_getf rfl (p := 53) rfl (xob (ly_m L) (by decide)) (v := (0, ((nN m : Nat) : Int))) (xsl0 rfl ((hM 292 0 (by decide)).trans (iNn hI).1)) ?_
          have iNn_ := iNn hI
          refine xk_un rfl (p := 54) rfl (w := (1, ((nN m : Nat) : Int))) (rfl) ?_
          refine xk_load rfl (p := 55) rfl rfl ?_
          refine xk_callp rfl (p := 58) rfl (by decide) rfl (Nat.le_of_ble_eq_true rfl) (Nat.le_of_ble_eq_true rfl) (rfl) (as := [(1, ((z : Nat) : Int)), (1, ((nN m : Nat) : Int)), (0, w)]) (r := []) rfl (v := (1, sPt ((z : Nat) : Int) ((nN m : Nat) : Int) w)) (n_part (m := m) L (by omega) (by omega) (by omega) (by omega)) ?_
          refine xk_rete rfl (rfl) ?_
          unfold y_mean
          rw [hi1, show k = nN m by omega, if_pos (by omega)]
        · replace c29_4 : ¬ (((nN m : Nat) : Int) ≤ ((k : Nat) : Int)) := c29_4
          refine xk_load rfl (p := 33) rfl rfl ?_
          refine xk_load rfl (p := 34) rfl rfl ?_
          refine xk_getf rfl (p := 37) rfl (xob (ly_m L) (by decide)) (v := (2, ((298 : Nat) : Int))) (xsl2 rfl (ly_mp7 L)) ?_
          refine xk_load rfl (p := 38) rfl rfl ?_
          refine xk_ald rfl (p := 39) rfl (v := (0, ((nJ m k : Nat) : Int))) ((xal0 (ly_ms7 L) (show k < 12 by omega)).trans (congrArg (fun z => some (0, z)) ((hM 298 k (by decide)).trans (iJn hI (show k < nN m by omega)).1))) ?_
          have iJn_ := iJn hI (show k < nN m by omega)
          refine xk_bin rfl (p := 40) rfl (z := ((z + (nJ m k) : Nat) : Int)) (congrArg some (xadd_n (n := z) (m := nJ m k) (by omega))) ?_
          refine xk_store rfl (p := 41) rfl (by decide) (Nat.le_of_ble_eq_true rfl) (ls' := [(2, ((292 : Nat) : Int)), (0, w), (0, ((z + (nJ m k) : Nat) : Int)), (0, ((k : Nat) : Int))]) rfl ?_
          refine xk_inc1 rfl (p := 44) rfl (n := k) rfl (by omega) (ls' := [(2, ((292 : Nat) : Int)), (0, w), (0, ((z + (nJ m k) : Nat) : Int)), (0, ((k + 1 : Nat) : Int))]) rfl ?_
          refine xk_goto rfl ?_
          exact ih3 (by omega) (z + (nJ m k)) (by show z + nJ m k = xsum (fun n => nJ m n) k + nJ m k; omega)
      exact lp3 0 (by omega) 0 (by rfl)
    · replace c13_2 : ((nN m : Nat) : Int) = 0 := Decidable.not_not.mp c13_2
      refine xk_push rfl (p := 19) rfl ?_
      refine xk_rete rfl (rfl) ?_
      exact (if_neg (by omega)).symm

def sBc (z : Nat) : Nat := xcnt (fun d => z.testBit d) 12
def eBc (x : Int) : Int :=
  let a := xsub x (xand (xushr x 1) 1431655765)
  let b := xadd (xand a 858993459) (xand (xushr a 2) 858993459)
  let c := xand (xadd b (xushr b 4)) 252645135
  let e := xadd c (xushr c 8)
  xand (xadd e (xushr e 16)) 63
theorem eBc_all : (List.range 4096).all (fun z => decide (eBc ((z : Nat) : Int) = ((sBc z : Nat) : Int))) = true := by decide +kernel
theorem eBc_ok {z : Nat} (h : z < 4096) : eBc ((z : Nat) : Int) = ((sBc z : Nat) : Int) := of_decide_eq_true (xball eBc_all h)
theorem sBc_le {z : Nat} : sBc z ≤ 12 := xcnt_le 12
theorem n_bitCount {d : Nat} {g : xG} {t : xD} {z : Nat} (hz : z < 4096) : xCall (d) 199 [(0, ((z : Nat) : Int))] g t (xQ g t (some (0, ((sBc z : Nat) : Int)))) := by
  show xOk (d) 199 0 [(0, ((z : Nat) : Int))] [] g t _
  refine xk_load rfl (p := 1) rfl rfl ?_
  refine xk_load rfl (p := 2) rfl rfl ?_
  refine xk_push rfl (p := 3) rfl ?_
  refine xk_bin rfl (p := 4) rfl (z := xushr ((z : Nat) : Int) 1) (rfl) ?_
  refine xk_push rfl (p := 7) rfl ?_
  refine xk_bin rfl (p := 8) rfl (z := xand (xushr ((z : Nat) : Int) 1) 1431655765) (rfl) ?_
  refine xk_bin rfl (p := 9) rfl (z := xsub ((z : Nat) : Int) (xand (xushr ((z : Nat) : Int) 1) 1431655765)) (rfl) ?_
  refine xk_store rfl (p := 10) rfl (by decide) (Nat.le_of_ble_eq_true rfl) (ls' := [(0, xsub ((z : Nat) : Int) (xand (xushr ((z : Nat) : Int) 1) 1431655765))]) rfl ?_
  refine xk_load rfl (p := 11) rfl rfl ?_
  refine xk_push rfl (p := 14) rfl ?_
  refine xk_bin rfl (p := 15) rfl (z := xand (xsub ((z : Nat) : Int) (xand (xushr ((z : Nat) : Int) 1) 1431655765)) 858993459) (rfl) ?_
  refine xk_load rfl (p := 16) rfl rfl ?_
  refine xk_push rfl (p := 17) rfl ?_
  refine xk_bin rfl (p := 18) rfl (z := xushr (xsub ((z : Nat) : Int) (xand (xushr ((z : Nat) : Int) 1) 1431655765)) 2) (rfl) ?_
  refine xk_push rfl (p := 21) rfl ?_
  refine xk_bin rfl (p := 22) rfl (z := xand (xushr (xsub ((z : Nat) : Int) (xand (xushr ((z : Nat) : Int) 1) 1431655765)) 2) 858993459) (rfl) ?_
  refine xk_bin rfl (p := 23) rfl (z := xadd (xand (xsub ((z : Nat) : Int) (xand (xushr ((z : Nat) : Int) 1) 1431655765)) 858993459) (xand (xushr (xsub ((z : Nat) : Int) (xand (xushr ((z : Nat) : Int) 1) 1431655765)) 2) 858993459)) (rfl) ?_
  refine xk_store rfl (p := 24) rfl (by decide) (Nat.le_of_ble_eq_true rfl) (ls' := [(0, xadd (xand (xsub ((z : Nat) : Int) (xand (xushr ((z : Nat) : Int) 1) 1431655765)) 858993459) (xand (xushr (xsub ((z : Nat) : Int) (xand (xushr ((z : Nat) : Int) 1) 1431655765)) 2) 858993459))]) rfl ?_
  refine xk_load rfl (p := 25) rfl rfl ?_
  refine xk_load rfl (p := 26) rfl rfl ?_
  refine xk_push rfl (p := 27) rfl ?_
  refine xk_bin rfl (p := 28) rfl (z := xushr (xadd (xand (xsub ((z : Nat) : Int) (xand (xushr ((z : Nat) : Int) 1) 1431655765)) 858993459) (xand (xushr (xsub ((z : Nat) : Int) (xand (xushr ((z : Nat) : Int) 1) 1431655765)) 2) 858993459)) 4) (rfl) ?_
  refine xk_bin rfl (p := 29) rfl (z := xadd (xadd (xand (xsub ((z : Nat) : Int) (xand (xushr ((z : Nat) : Int) 1) 1431655765)) 858993459) (xand (xushr (xsub ((z : Nat) : Int) (xand (xushr ((z : Nat) : Int) 1) 1431655765)) 2) 858993459)) (xushr (xadd (xand (xsub ((z : Nat) : Int) (xand (xushr ((z : Nat) : Int) 1) 1431655765)) 858993459) (xand (xushr (xsub ((z : Nat) : Int) (xand (xushr ((z : Nat) : Int) 1) 1431655765)) 2) 858993459)) 4)) (rfl) ?_
  refine xk_push rfl (p := 32) rfl ?_
  refine xk_bin rfl (p := 33) rfl (z := xand (xadd (xadd (xand (xsub ((z : Nat) : Int) (xand (xushr ((z : Nat) : Int) 1) 1431655765)) 858993459) (xand (xushr (xsub ((z : Nat) : Int) (xand (xushr ((z : Nat) : Int) 1) 1431655765)) 2) 858993459)) (xushr (xadd (xand (xsub ((z : Nat) : Int) (xand (xushr ((z : Nat) : Int) 1) 1431655765)) 858993459) (xand (xushr (xsub ((z : Nat) : Int) (xand (xushr ((z : Nat) : Int) 1) 1431655765)) 2) 858993459)) 4)) 252645135) (rfl) ?_
  refine xk_store rfl (p := 34) rfl (by decide) (Nat.le_of_ble_eq_true rfl) (ls' := [(0, xand (xadd (xadd (xand (xsub ((z : Nat) : Int) (xand (xushr ((z : Nat) : Int) 1) 1431655765)) 858993459) (xand (xushr (xsub ((z : Nat) : Int) (xand (xushr ((z : Nat) : Int) 1) 1431655765)) 2) 858993459)) (xushr (xadd (xand (xsub ((z : Nat) : Int) (xand (xushr ((z : Nat) : Int) 1) 1431655765)) 858993459) (xand (xushr (xsub ((z : Nat) : Int) (xand (xushr ((z : Nat) : Int) 1) 1431655765)) 2) 858993459)) 4)) 252645135)]) rfl ?_
  refine xk_load rfl (p := 35) rfl rfl ?_
  refine xk_load rfl (p := 36) rfl rfl ?_
  refine xk_push rfl (p := 38) rfl ?_
  refine xk_bin rfl (p := 39) rfl (z := xushr (xand (xadd (xadd (xand (xsub ((z : Nat) : Int) (xand (xushr ((z : Nat) : Int) 1) 1431655765)) 858993459) (xand (xushr (xsub ((z : Nat) : Int) (xand (xushr ((z : Nat) : Int) 1) 1431655765)) 2) 858993459)) (xushr (xadd (xand (xsub ((z : Nat) : Int) (xand (xushr ((z : Nat) : Int) 1) 1431655765)) 858993459) (xand (xushr (xsub ((z : Nat) : Int) (xand (xushr ((z : Nat) : Int) 1) 1431655765)) 2) 858993459)) 4)) 252645135) 8) (rfl) ?_
  refine xk_bin rfl (p := 40) rfl (z := xadd (xand (xadd (xadd (xand (xsub ((z : Nat) : Int) (xand (xushr ((z : Nat) : Int) 1) 1431655765)) 858993459) (xand (xushr (xsub ((z : Nat) : Int) (xand (xushr ((z : Nat) : Int) 1) 1431655765)) 2) 858993459)) (xushr (xadd (xand (xsub ((z : Nat) : Int) (xand (xushr ((z : Nat) : Int) 1) 1431655765)) 858993459) (xand (xushr (xsub ((z : Nat) : Int) (xand (xushr ((z : Nat) : Int) 1) 1431655765)) 2) 858993459)) 4)) 252645135) (xushr (xand (xadd (xadd (xand (xsub ((z : Nat) : Int) (xand (xushr ((z : Nat) : Int) 1) 1431655765)) 858993459) (xand (xushr (xsub ((z : Nat) : Int) (xand (xushr ((z : Nat) : Int) 1) 1431655765)) 2) 858993459)) (xushr (xadd (xand (xsub ((z : Nat) : Int) (xand (xushr ((z : Nat) : Int) 1) 1431655765)) 858993459) (xand (xushr (xsub ((z : Nat) : Int) (xand (xushr ((z : Nat) : Int) 1) 1431655765)) 2) 858993459)) 4)) 252645135) 8)) (rfl) ?_
  refine xk_store rfl (p := 41) rfl (by decide) (Nat.le_of_ble_eq_true rfl) (ls' := [(0, xadd (xand (xadd (xadd (xand (xsub ((z : Nat) : Int) (xand (xushr ((z : Nat) : Int) 1) 1431655765)) 858993459) (xand (xushr (xsub ((z : Nat) : Int) (xand (xushr ((z : Nat) : Int) 1) 1431655765)) 2) 858993459)) (xushr (xadd (xand (xsub ((z : Nat) : Int) (xand (xushr ((z : Nat) : Int) 1) 1431655765)) 858993459) (xand (xushr (xsub ((z : Nat) : Int) (xand (xushr ((z : Nat) : Int) 1) 1431655765)) 2) 858993459)) 4)) 252645135) (xushr (xand (xadd (xadd (xand (xsub ((z : Nat) : Int) (xand (xushr ((z : Nat) : Int) 1) 1431655765)) 858993459) (xand (xushr (xsub ((z : Nat) : Int) (xand (xushr ((z : Nat) : Int) 1) 1431655765)) 2) 858993459)) (xushr (xadd (xand (xsub ((z : Nat) : Int) (xand (xushr ((z : Nat) : Int) 1) 1431655765)) 858993459) (xand (xushr (xsub ((z : Nat) : Int) (xand (xushr ((z : Nat) : Int) 1) 1431655765)) 2) 858993459)) 4)) 252645135) 8))]) rfl ?_
  refine xk_load rfl (p := 42) rfl rfl ?_
  refine xk_load rfl (p := 43) rfl rfl ?_
  refine xk_push rfl (p := 45) rfl ?_
  refine xk_bin rfl (p := 46) rfl (z := xushr (xadd (xand (xadd (xadd (xand (xsub ((z : Nat) : Int) (xand (xushr ((z : Nat) : Int) 1) 1431655765)) 858993459) (xand (xushr (xsub ((z : Nat) : Int) (xand (xushr ((z : Nat) : Int) 1) 1431655765)) 2) 858993459)) (xushr (xadd (xand (xsub ((z : Nat) : Int) (xand (xushr ((z : Nat) : Int) 1) 1431655765)) 858993459) (xand (xushr (xsub ((z : Nat) : Int) (xand (xushr ((z : Nat) : Int) 1) 1431655765)) 2) 858993459)) 4)) 252645135) (xushr (xand (xadd (xadd (xand (xsub ((z : Nat) : Int) (xand (xushr ((z : Nat) : Int) 1) 1431655765)) 858993459) (xand (xushr (xsub ((z : Nat) : Int) (xand (xushr ((z : Nat) : Int) 1) 1431655765)) 2) 858993459)) (xushr (xadd (xand (xsub ((z : Nat) : Int) (xand (xushr ((z : Nat) : Int) 1) 1431655765)) 858993459) (xand (xushr (xsub ((z : Nat) : Int) (xand (xushr ((z : Nat) : Int) 1) 1431655765)) 2) 858993459)) 4)) 252645135) 8)) 16) (rfl) ?_
  refine xk_bin rfl (p := 47) rfl (z := xadd (xadd (xand (xadd (xadd (xand (xsub ((z : Nat) : Int) (xand (xushr ((z : Nat) : Int) 1) 1431655765)) 858993459) (xand (xushr (xsub ((z : Nat) : Int) (xand (xushr ((z : Nat) : Int) 1) 1431655765)) 2) 858993459)) (xushr (xadd (xand (xsub ((z : Nat) : Int) (xand (xushr ((z : Nat) : Int) 1) 1431655765)) 858993459) (xand (xushr (xsub ((z : Nat) : Int) (xand (xushr ((z : Nat) : Int) 1) 1431655765)) 2) 858993459)) 4)) 252645135) (xushr (xand (xadd (xadd (xand (xsub ((z : Nat) : Int) (xand (xushr ((z : Nat) : Int) 1) 1431655765)) 858993459) (xand (xushr (xsub ((z : Nat) : Int) (xand (xushr ((z : Nat) : Int) 1) 1431655765)) 2) 858993459)) (xushr (xadd (xand (xsub ((z : Nat) : Int) (xand (xushr ((z : Nat) : Int) 1) 1431655765)) 858993459) (xand (xushr (xsub ((z : Nat) : Int) (xand (xushr ((z : Nat) : Int) 1) 1431655765)) 2) 858993459)) 4)) 252645135) 8)) (xushr (xadd (xand (xadd (xadd (xand (xsub ((z : Nat) : Int) (xand (xushr ((z : Nat) : Int) 1) 1431655765)) 858993459) (xand (xushr (xsub ((z : Nat) : Int) (xand (xushr ((z : Nat) : Int) 1) 1431655765)) 2) 858993459)) (xushr (xadd (xand (xsub ((z : Nat) : Int) (xand (xushr ((z : Nat) : Int) 1) 1431655765)) 858993459) (xand (xushr (xsub ((z : Nat) : Int) (xand (xushr ((z : Nat) : Int) 1) 1431655765)) 2) 858993459)) 4)) 252645135) (xushr (xand (xadd (xadd (xand (xsub ((z : Nat) : Int) (xand (xushr ((z : Nat) : Int) 1) 1431655765)) 858993459) (xand (xushr (xsub ((z : Nat) : Int) (xand (xushr ((z : Nat) : Int) 1) 1431655765)) 2) 858993459)) (xushr (xadd (xand (xsub ((z : Nat) : Int) (xand (xushr ((z : Nat) : Int) 1) 1431655765)) 858993459) (xand (xushr (xsub ((z : Nat) : Int) (xand (xushr ((z : Nat) : Int) 1) 1431655765)) 2) 858993459)) 4)) 252645135) 8)) 16)) (rfl) ?_
  refine xk_store rfl (p := 48) rfl (by decide) (Nat.le_of_ble_eq_true rfl) (ls' := [(0, xadd (xadd (xand (xadd (xadd (xand (xsub ((z : Nat) : Int) (xand (xushr ((z : Nat) : Int) 1) 1431655765)) 858993459) (xand (xushr (xsub ((z : Nat) : Int) (xand (xushr ((z : Nat) : Int) 1) 1431655765)) 2) 858993459)) (xushr (xadd (xand (xsub ((z : Nat) : Int) (xand (xushr ((z : Nat) : Int) 1) 1431655765)) 858993459) (xand (xushr (xsub ((z : Nat) : Int) (xand (xushr ((z : Nat) : Int) 1) 1431655765)) 2) 858993459)) 4)) 252645135) (xushr (xand (xadd (xadd (xand (xsub ((z : Nat) : Int) (xand (xushr ((z : Nat) : Int) 1) 1431655765)) 858993459) (xand (xushr (xsub ((z : Nat) : Int) (xand (xushr ((z : Nat) : Int) 1) 1431655765)) 2) 858993459)) (xushr (xadd (xand (xsub ((z : Nat) : Int) (xand (xushr ((z : Nat) : Int) 1) 1431655765)) 858993459) (xand (xushr (xsub ((z : Nat) : Int) (xand (xushr ((z : Nat) : Int) 1) 1431655765)) 2) 858993459)) 4)) 252645135) 8)) (xushr (xadd (xand (xadd (xadd (xand (xsub ((z : Nat) : Int) (xand (xushr ((z : Nat) : Int) 1) 1431655765)) 858993459) (xand (xushr (xsub ((z : Nat) : Int) (xand (xushr ((z : Nat) : Int) 1) 1431655765)) 2) 858993459)) (xushr (xadd (xand (xsub ((z : Nat) : Int) (xand (xushr ((z : Nat) : Int) 1) 1431655765)) 858993459) (xand (xushr (xsub ((z : Nat) : Int) (xand (xushr ((z : Nat) : Int) 1) 1431655765)) 2) 858993459)) 4)) 252645135) (xushr (xand (xadd (xadd (xand (xsub ((z : Nat) : Int) (xand (xushr ((z : Nat) : Int) 1) 1431655765)) 858993459) (xand (xushr (xsub ((z : Nat) : Int) (xand (xushr ((z : Nat) : Int) 1) 1431655765)) 2) 858993459)) (xushr (xadd (xand (xsub ((z : Nat) : Int) (xand (xushr ((z : Nat) : Int) 1) 1431655765)) 858993459) (xand (xushr (xsub ((z : Nat) : Int) (xand (xushr ((z : Nat) : Int) 1) 1431655765)) 2) 858993459)) 4)) 252645135) 8)) 16))]) rfl ?_
  refine xk_load rfl (p := 49) rfl rfl ?_
  refine xk_push rfl (p := 51) rfl ?_
  refine xk_bin rfl (p := 52) rfl (z := xand (xadd (xadd (xand (xadd (xadd (xand (xsub ((z : Nat) : Int) (xand (xushr ((z : Nat) : Int) 1) 1431655765)) 858993459) (xand (xushr (xsub ((z : Nat) : Int) (xand (xushr ((z : Nat) : Int) 1) 1431655765)) 2) 858993459)) (xushr (xadd (xand (xsub ((z : Nat) : Int) (xand (xushr ((z : Nat) : Int) 1) 1431655765)) 858993459) (xand (xushr (xsub ((z : Nat) : Int) (xand (xushr ((z : Nat) : Int) 1) 1431655765)) 2) 858993459)) 4)) 252645135) (xushr (xand (xadd (xadd (xand (xsub ((z : Nat) : Int) (xand (xushr ((z : Nat) : Int) 1) 1431655765)) 858993459) (xand (xushr (xsub ((z : Nat) : Int) (xand (xushr ((z : Nat) : Int) 1) 1431655765)) 2) 858993459)) (xushr (xadd (xand (xsub ((z : Nat) : Int) (xand (xushr ((z : Nat) : Int) 1) 1431655765)) 858993459) (xand (xushr (xsub ((z : Nat) : Int) (xand (xushr ((z : Nat) : Int) 1) 1431655765)) 2) 858993459)) 4)) 252645135) 8)) (xushr (xadd (xand (xadd (xadd (xand (xsub ((z : Nat) : Int) (xand (xushr ((z : Nat) : Int) 1) 1431655765)) 858993459) (xand (xushr (xsub ((z : Nat) : Int) (xand (xushr ((z : Nat) : Int) 1) 1431655765)) 2) 858993459)) (xushr (xadd (xand (xsub ((z : Nat) : Int) (xand (xushr ((z : Nat) : Int) 1) 1431655765)) 858993459) (xand (xushr (xsub ((z : Nat) : Int) (xand (xushr ((z : Nat) : Int) 1) 1431655765)) 2) 858993459)) 4)) 252645135) (xushr (xand (xadd (xadd (xand (xsub ((z : Nat) : Int) (xand (xushr ((z : Nat) : Int) 1) 1431655765)) 858993459) (xand (xushr (xsub ((z : Nat) : Int) (xand (xushr ((z : Nat) : Int) 1) 1431655765)) 2) 858993459)) (xushr (xadd (xand (xsub ((z : Nat) : Int) (xand (xushr ((z : Nat) : Int) 1) 1431655765)) 858993459) (xand (xushr (xsub ((z : Nat) : Int) (xand (xushr ((z : Nat) : Int) 1) 1431655765)) 2) 858993459)) 4)) 252645135) 8)) 16)) 63) (rfl) ?_
  refine xk_rete rfl (rfl) ?_
  exact eBc_ok hz

def sMo (m : xD) : Nat → Nat
  | 0 => 0
  | K + 1 => if bSet m ((K + 1 : Nat) : Int) = true ∧ sBc (sMo m K) < sBc (K + 1) ∧ 0 < (exN m (-1) 0 ((K + 1 : Nat) : Int)).1 then K + 1 else sMo m K
theorem sMo_le {m : xD} : ∀ K, sMo m K ≤ K
  | 0 => Nat.le_refl 0
  | K + 1 => by
    have := sMo_le (m := m) K
    unfold sMo
    split <;> omega
theorem bSet_vi {m u : xD} (h : vw m = vw u) : bSet m = bSet u := by
  show bSet (vw m) = bSet (vw u)
  rw [h]
theorem n_most {d : Nat} {g : xG} {t m : xD} (L : xLay g) (hM : Mo t m) (hI : Inv m) : xCall (d + 14) 174 [(2, ((292 : Nat) : Int))] g t (sQ g t m (0, ((sMo m 15 : Nat) : Int))) := by
  show xOk (d + 14) 174 0 [(2, ((292 : Nat) : Int)), (3, 0), (3, 0)] [] g t _
  have iNn_ := iNn hI
  refine xk_push rfl (p := 1) rfl ?_
  refine xk_store rfl (p := 2) rfl (by decide) (Nat.le_of_ble_eq_true rfl) (ls' := [(2, ((292 : Nat) : Int)), (0, 0), (3, 0)]) rfl ?_
  refine xk_push rfl (p := 3) rfl ?_
  refine xk_store rfl (p := 4) rfl (by decide) (Nat.le_of_ble_eq_true rfl) (ls' := [(2, ((292 : Nat) : Int)), (0, 0), (0, 1)]) rfl ?_
  have lp1 : ∀ k : Nat, k ≤ 15 → ∀ (z : Nat) (m1 : xD) (u1 : xD), (Mo u1 m1) → (Md t u1) → (Sy m m1) → (z = sMo m k) → xOk (d + 14) 174 4 [(2, ((292 : Nat) : Int)), (0, ((z : Nat) : Int)), (0, ((k + 1 : Nat) : Int))] [] g u1 (sQ g t m (0, ((sMo m 15 : Nat) : Int))) := by
    refine xk_up 15 (fun k hkk ih1 z m1 u1 h1_1 h1_2 h1_3 h1_4 => ?_)
    have le_ := sMo_le (m := m) k
    have bz_ : sBc z = sBc (sMo m k) := congrArg sBc h1_4
    refine xk_load rfl (p := 5) rfl rfl ?_
    refine xk_push rfl (p := 7) rfl ?_
    refine xk_icmp rfl (p := 10) rfl (fun c7_2 => ?_) (fun c7_2 => ?_)
    · replace c7_2 : 16 ≤ ((k + 1 : Nat) : Int) := c7_2
      refine xk_load rfl (p := 55) rfl rfl ?_
      refine xk_ret rfl (rfl) ?_
      rw [show k = 15 by omega] at h1_4
      exact ⟨rfl, by rw [h1_4], h1_2, m1, h1_1, h1_3⟩
    · replace c7_2 : ¬ (16 ≤ ((k + 1 : Nat) : Int)) := c7_2
      refine xk_load rfl (p := 11) rfl rfl ?_
      refine xk_load rfl (p := 12) rfl rfl ?_
      refine xk_callp rfl (p := 15) rfl (by decide) rfl (Nat.le_of_ble_eq_true rfl) (Nat.le_of_ble_eq_true rfl) (xrv (ly_m L) (by decide)) (as := [(2, ((292 : Nat) : Int)), (0, ((k + 1 : Nat) : Int))]) (r := []) rfl (v := (0, (if bSet m ((k + 1 : Nat) : Int) = true then (1 : Int) else 0))) (xCall_eq (n_isSet (m := m1) L h1_1 (hI.vi h1_3.vi) ⟨by omega, by omega⟩) (by rw [bSet_vi h1_3.vi])) ?_
      refine xk_if rfl (p := 18) rfl (fun c15_3 => ?_) (fun c15_3 => ?_)
      · replace c15_3 : ¬ (bSet m ((k + 1 : Nat) : Int) = true) := xb_e0 c15_3
        refine xk_inc1 rfl (p := 51) rfl (n := k + 1) rfl (by omega) (ls' := [(2, ((292 : Nat) : Int)), (0, ((z : Nat) : Int)), (0, ((k + 1 + 1 : Nat) : Int))]) rfl ?_
        refine xk_goto rfl ?_
        exact ih1 (by omega) z m1 u1 (by exact h1_1) (by exact h1_2) (by exact h1_3) (by unfold sMo; first | (rw [if_pos ⟨by assumption, by omega, by omega⟩]; done) | (rw [if_neg (fun h => by obtain ⟨ha, hb, hc⟩ := h; first | contradiction | omega)]; exact h1_4))
      · replace c15_3 : bSet m ((k + 1 : Nat) : Int) = true := xb_n0 c15_3
        refine xk_load rfl (p := 19) rfl rfl ?_
        refine xk_callp rfl (p := 22) rfl (by decide) rfl (Nat.le_of_ble_eq_true rfl) (Nat.le_of_ble_eq_true rfl) (rfl) (as := [(0, ((k + 1 : Nat) : Int))]) (r := []) rfl (v := (0, ((sBc (k + 1) : Nat) : Int))) (n_bitCount (by omega)) ?_
        refine xk_load rfl (p := 23) rfl rfl ?_
        refine xk_callp rfl (p := 26) rfl (by decide) rfl (Nat.le_of_ble_eq_true rfl) (Nat.le_of_ble_eq_true rfl) (rfl) (as := [(0, ((z : Nat) : Int))]) (r := [(0, ((sBc (k + 1) : Nat) : Int))]) rfl (v := (0, ((sBc z : Nat) : Int))) (n_bitCount (by omega)) ?_
        refine xk_icmp rfl (p := 29) rfl (fun c26_4 => ?_) (fun c26_4 => ?_)
        · replace c26_4 : ((sBc z : Nat) : Int) < ((sBc (k + 1) : Nat) : Int) := c26_4
          refine xk_load rfl (p := 33) rfl rfl ?_
          refine xk_load rfl (p := 34) rfl rfl ?_
          refine xk_push rfl (p := 35) rfl ?_
          refine xk_push rfl (p := 36) rfl ?_
          refine xk_call rfl (p := 39) rfl (by decide) rfl (Nat.le_of_ble_eq_true rfl) (Nat.le_of_ble_eq_true rfl) (xrv (ly_m L) (by decide)) (as := [(2, ((292 : Nat) : Int)), (0, ((k + 1 : Nat) : Int)), (0, (-1)), (0, 0)]) (r := []) rfl (n_all (m := m1) L h1_1 (hI.vi h1_3.vi) (by rw [bSet_vi h1_3.vi.symm]; assumption) (.inl rfl)) ?_
          rintro _ g u9 ⟨rfl, rfl, hD9, m9, h9_1, h9_3, h9_4⟩
          refine xk_load rfl (p := 40) rfl rfl ?_
          refine xk_getf rfl (p := 43) rfl (xob (ly_m L) (by decide)) (v := (0, (exN m (-1) 0 ((k + 1 : Nat) : Int)).1)) (xsl0 rfl ((h9_1 292 34 (by decide)).trans ((congrArg (fun A : Acc => A.1) h9_4).trans (by rw [exN_vi h1_3.vi.symm])))) ?_
          refine xk_if rfl (p := 46) rfl (fun c43_5 => ?_) (fun c43_5 => ?_)
          · replace c43_5 : (exN m (-1) 0 ((k + 1 : Nat) : Int)).1 ≤ 0 := c43_5
            refine xk_inc1 rfl (p := 51) rfl (n := k + 1) rfl (by omega) (ls' := [(2, ((292 : Nat) : Int)), (0, ((z : Nat) : Int)), (0, ((k + 1 + 1 : Nat) : Int))]) rfl ?_
            refine xk_goto rfl ?_
            exact ih1 (by omega) z m9 u9 (by exact h9_1) (by exact h1_2.tr hD9) (by exact h1_3.tr h9_3) (by unfold sMo; first | (rw [if_pos ⟨by assumption, by omega, by omega⟩]; done) | (rw [if_neg (fun h => by obtain ⟨ha, hb, hc⟩ := h; first | contradiction | omega)]; exact h1_4))
          · replace c43_5 : ¬ ((exN m (-1) 0 ((k + 1 : Nat) : Int)).1 ≤ 0) := c43_5
            refine xk_load rfl (p := 47) rfl rfl ?_
            refine xk_store rfl (p := 48) rfl (by decide) (Nat.le_of_ble_eq_true rfl) (ls' := [(2, ((292 : Nat) : Int)), (0, ((k + 1 : Nat) : Int)), (0, ((k + 1 : Nat) : Int))]) rfl ?_
            refine xk_inc1 rfl (p := 51) rfl (n := k + 1) rfl (by omega) (ls' := [(2, ((292 : Nat) : Int)), (0, ((k + 1 : Nat) : Int)), (0, ((k + 1 + 1 : Nat) : Int))]) rfl ?_
            refine xk_goto rfl ?_
            exact ih1 (by omega) (k + 1) m9 u9 (by exact h9_1) (by exact h1_2.tr hD9) (by exact h1_3.tr h9_3) (by unfold sMo; first | (rw [if_pos ⟨by assumption, by omega, by omega⟩]; done) | (rw [if_neg (fun h => by obtain ⟨ha, hb, hc⟩ := h; first | contradiction | omega)]; exact h1_4))
        · replace c26_4 : ¬ (((sBc z : Nat) : Int) < ((sBc (k + 1) : Nat) : Int)) := c26_4
          refine xk_goto rfl ?_
          refine xk_inc1 rfl (p := 51) rfl (n := k + 1) rfl (by omega) (ls' := [(2, ((292 : Nat) : Int)), (0, ((z : Nat) : Int)), (0, ((k + 1 + 1 : Nat) : Int))]) rfl ?_
          refine xk_goto rfl ?_
          exact ih1 (by omega) z m1 u1 (by exact h1_1) (by exact h1_2) (by exact h1_3) (by unfold sMo; first | (rw [if_pos ⟨by assumption, by omega, by omega⟩]; done) | (rw [if_neg (fun h => by obtain ⟨ha, hb, hc⟩ := h; first | contradiction | omega)]; exact h1_4))
  exact lp1 0 (by omega) 0 m t (by exact hM) (by exact Md.rf) (by exact Sy.rf) (by rfl)

def y_state (m : xD) (x : Int) : Int := if x = 0 then m 292 6 else if x = 1 then (if sCom m = -1 then 0 else if m 292 13 ≤ 0 then 0 else 1) else if x = 2 then (if sCom m = -1 then 0 else m 301 (sCom m).toNat + 2 - m 292 13) else if x = 3 then m 292 14 else if x = 4 then (if m 292 14 = 1 then ((xcnt (fun i => decide (¬ m 304 i = 0)) (nN m) : Nat) : Int) else 0) else if x = 5 then ((xbs (fun d => decide (0 < m 300 d)) 4 : Nat) : Int) else if x = 6 then ((sMo m 15 : Nat) : Int) else -1
theorem n_state {d : Nat} {g : xG} {t m : xD} {x : Int} (L : xLay g) (hM : Mo t m) (hI : Inv m) : xCall (d + 15) 167 [(2, ((292 : Nat) : Int)), (0, x)] g t (sQ g t m (0, y_state m x)) := by
  show xOk (d + 15) 167 0 [(2, ((292 : Nat) : Int)), (0, x), (3, 0)] [] g t _
  have iNn_ := iNn hI
  have sDone_ := sCom_done hI
  refine xk_load rfl (p := 1) rfl rfl ?_
  refine xk_callp rfl (p := 4) rfl (by decide) rfl (Nat.le_of_ble_eq_true rfl) (Nat.le_of_ble_eq_true rfl) (xrv (ly_m L) (by decide)) (as := [(2, ((292 : Nat) : Int))]) (r := []) rfl (v := (0, sCom m)) (n_committing L hM hI) ?_
  have sCom_ := sCom_rng (m := m)
  refine xk_store rfl (p := 5) rfl (by decide) (Nat.le_of_ble_eq_true rfl) (ls' := [(2, ((292 : Nat) : Int)), (0, x), (0, sCom m)]) rfl ?_
  refine xk_load rfl (p := 6) rfl rfl ?_
  by_cases c6_1 : x = 0
  · refine xk_switch rfl (w := 48) (by rw [c6_1]; rfl) ?_
    refine xk_load rfl (p := 49) rfl rfl ?_
    refine xk_getf rfl (p := 52) rfl (xob (ly_m L) (by decide)) (v := (0, m 292 6)) (xsl0 rfl (hM 292 6 (by decide))) ?_
    refine xk_ret rfl (rfl) ?_
    exact ⟨rfl, congrArg (fun z => some ((0, z) : xV)) (by unfold y_state; (repeat' split) <;> first | rfl | (exfalso; omega) | omega), Md.rf, m, hM, Sy.rf⟩
  by_cases c6_2 : x = 1
  · refine xk_switch rfl (w := 53) (by rw [c6_2]; rfl) ?_
    refine xk_load rfl (p := 54) rfl rfl ?_
    refine xk_push rfl (p := 55) rfl ?_
    refine xk_icmp rfl (p := 58) rfl (fun c55_3 => ?_) (fun c55_3 => ?_)
    · replace c55_3 : sCom m = (-1) := c55_3
      refine xk_push rfl (p := 70) rfl ?_
      refine xk_ret rfl (rfl) ?_
      exact ⟨rfl, congrArg (fun z => some ((0, z) : xV)) (by unfold y_state; (repeat' split) <;> first | rfl | (exfalso; omega) | omega), Md.rf, m, hM, Sy.rf⟩
    · replace c55_3 : ¬ (sCom m = (-1)) := c55_3
      refine xk_load rfl (p := 59) rfl rfl ?_
      refine xk_getf rfl (p := 62) rfl (xob (ly_m L) (by decide)) (v := (0, m 292 13)) (xsl0 rfl (hM 292 13 (by decide))) ?_
      refine xk_if rfl (p := 65) rfl (fun c62_4 => ?_) (fun c62_4 => ?_)
      · replace c62_4 : m 292 13 ≤ 0 := c62_4
        refine xk_push rfl (p := 70) rfl ?_
        refine xk_ret rfl (rfl) ?_
        exact ⟨rfl, congrArg (fun z => some ((0, z) : xV)) (by unfold y_state; (repeat' split) <;> first | rfl | (exfalso; omega) | omega), Md.rf, m, hM, Sy.rf⟩
      · replace c62_4 : ¬ (m 292 13 ≤ 0) := c62_4
        refine xk_push rfl (p := 66) rfl ?_
        refine xk_goto rfl ?_
        refine xk_ret rfl (rfl) ?_
        exact ⟨rfl, congrArg (fun z => some ((0, z) : xV)) (by unfold y_state; (repeat' split) <;> first | rfl | (exfalso; omega) | omega), Md.rf, m, hM, Sy.rf⟩
  by_cases c6_5 : x = 2
  · refine xk_switch rfl (w := 71) (by rw [c6_5]; rfl) ?_
    refine xk_load rfl (p := 72) rfl rfl ?_
    refine xk_push rfl (p := 73) rfl ?_
    refine xk_icmp rfl (p := 76) rfl (fun c73_6 => ?_) (fun c73_6 => ?_)
    · replace c73_6 : ¬ (sCom m = (-1)) := c73_6
      refine xk_load rfl (p := 81) rfl rfl ?_
      refine xk_getf rfl (p := 84) rfl (xob (ly_m L) (by decide)) (v := (2, ((301 : Nat) : Int))) (xsl2 rfl (ly_mp10 L)) ?_
      refine xk_load rfl (p := 85) rfl rfl ?_
      refine xk_aldi rfl (p := 86) rfl (show 0 ≤ sCom m by omega) (v := (0, ((nR m ((sCom m).toNat) : Nat) : Int))) ((xal0 (ly_ms10 L) (show (sCom m).toNat < 4 by omega)).trans (congrArg (fun z => some (0, z)) ((hM 301 ((sCom m).toNat) (by decide)).trans (iRn hI (show (sCom m).toNat < 4 by omega)).1))) ?_
      have iRn_ := iRn hI (show (sCom m).toNat < 4 by omega)
      refine xk_push rfl (p := 87) rfl ?_
      refine xk_bin rfl (p := 88) rfl (z := ((nR m ((sCom m).toNat) + 2 : Nat) : Int)) (congrArg some (xadd_n (n := nR m ((sCom m).toNat)) (m := 2) (by omega))) ?_
      refine xk_load rfl (p := 89) rfl rfl ?_
      refine xk_getf rfl (p := 92) rfl (xob (ly_m L) (by decide)) (v := (0, m 292 13)) (xsl0 rfl (hM 292 13 (by decide))) ?_
      refine xk_bin rfl (p := 93) rfl (z := (((nR m ((sCom m).toNat) + 2 : Nat) : Int) - m 292 13)) (congrArg some (xsub_r (by omega) (by omega))) ?_
      refine xk_ret rfl (rfl) ?_
      exact ⟨rfl, congrArg (fun z => some ((0, z) : xV)) (by unfold y_state; (repeat' split) <;> first | rfl | (exfalso; omega) | omega), Md.rf, m, hM, Sy.rf⟩
    · replace c73_6 : sCom m = (-1) := Decidable.not_not.mp c73_6
      refine xk_push rfl (p := 77) rfl ?_
      refine xk_goto rfl ?_
      refine xk_ret rfl (rfl) ?_
      exact ⟨rfl, congrArg (fun z => some ((0, z) : xV)) (by unfold y_state; (repeat' split) <;> first | rfl | (exfalso; omega) | omega), Md.rf, m, hM, Sy.rf⟩
  by_cases c6_7 : x = 3
  · refine xk_switch rfl (w := 94) (by rw [c6_7]; rfl) ?_
    refine xk_load rfl (p := 95) rfl rfl ?_
    refine xk_getf rfl (p := 98) rfl (xob (ly_m L) (by decide)) (v := (0, m 292 14)) (xsl0 rfl (hM 292 14 (by decide))) ?_
    have iP_ := iP hI
    refine xk_ret rfl (rfl) ?_
    exact ⟨rfl, congrArg (fun z => some ((0, z) : xV)) (by unfold y_state; (repeat' split) <;> first | rfl | (exfalso; omega) | omega), Md.rf, m, hM, Sy.rf⟩
  by_cases c6_8 : x = 4
  · refine xk_switch rfl (w := 99) (by rw [c6_8]; rfl) ?_
    refine xk_load rfl (p := 100) rfl rfl ?_
    refine xk_getf rfl (p := 103) rfl (xob (ly_m L) (by decide)) (v := (0, m 292 14)) (xsl0 rfl (hM 292 14 (by decide))) ?_
    have iP_ := iP hI
    refine xk_push rfl (p := 104) rfl ?_
    refine xk_icmp rfl (p := 107) rfl (fun c104_9 => ?_) (fun c104_9 => ?_)
    · replace c104_9 : ¬ (m 292 14 = 1) := c104_9
      refine xk_push rfl (p := 115) rfl ?_
      refine xk_ret rfl (rfl) ?_
      exact ⟨rfl, congrArg (fun z => some ((0, z) : xV)) (by unfold y_state; (repeat' split) <;> first | rfl | (exfalso; omega) | omega), Md.rf, m, hM, Sy.rf⟩
    · replace c104_9 : m 292 14 = 1 := Decidable.not_not.mp c104_9
      refine xk_load rfl (p := 108) rfl rfl ?_
      refine xk_callp rfl (p := 111) rfl (by decide) rfl (Nat.le_of_ble_eq_true rfl) (Nat.le_of_ble_eq_true rfl) (xrv (ly_m L) (by decide)) (as := [(2, ((292 : Nat) : Int))]) (r := []) rfl (v := (0, ((xcnt (fun i => decide (¬ m 304 i = 0)) (nN m) : Nat) : Int))) (n_wroteOnes L hM hI) ?_
      refine xk_goto rfl ?_
      refine xk_ret rfl (rfl) ?_
      exact ⟨rfl, congrArg (fun z => some ((0, z) : xV)) (by unfold y_state; (repeat' split) <;> first | rfl | (exfalso; omega) | omega), Md.rf, m, hM, Sy.rf⟩
  by_cases c6_10 : x = 5
  · refine xk_switch rfl (w := 116) (by rw [c6_10]; rfl) ?_
    refine xk_load rfl (p := 117) rfl rfl ?_
    refine xk_callp rfl (p := 120) rfl (by decide) rfl (Nat.le_of_ble_eq_true rfl) (Nat.le_of_ble_eq_true rfl) (xrv (ly_m L) (by decide)) (as := [(2, ((292 : Nat) : Int))]) (r := []) rfl (v := (0, ((xbs (fun d => decide (0 < m 300 d)) 4 : Nat) : Int))) (n_allDeals L hM hI) ?_
    have xbs_ := xbs_lt4 (p := fun d => decide (0 < m 300 d)) (K := 4) (by omega)
    refine xk_ret rfl (rfl) ?_
    exact ⟨rfl, congrArg (fun z => some ((0, z) : xV)) (by unfold y_state; (repeat' split) <;> first | rfl | (exfalso; omega) | omega), Md.rf, m, hM, Sy.rf⟩
  by_cases c6_11 : x = 6
  · refine xk_switch rfl (w := 121) (by rw [c6_11]; rfl) ?_
    refine xk_load rfl (p := 122) rfl rfl ?_
    refine xk_call rfl (p := 125) rfl (by decide) rfl (Nat.le_of_ble_eq_true rfl) (Nat.le_of_ble_eq_true rfl) (xrv (ly_m L) (by decide)) (as := [(2, ((292 : Nat) : Int))]) (r := []) rfl (n_most L hM hI) ?_
    rintro _ g u9 ⟨rfl, rfl, hD9, m9, h9_1, h9_3⟩
    refine xk_ret rfl (rfl) ?_
    exact ⟨rfl, congrArg (fun z => some ((0, z) : xV)) (by unfold y_state; (repeat' split) <;> first | rfl | (exfalso; omega) | omega), hD9, m9, h9_1, h9_3⟩
  refine xk_switch rfl (w := 126) (if_pos (by first | omega | (simp only [List.length]; omega))) ?_
  refine xk_push rfl (p := 127) rfl ?_
  refine xk_ret rfl (rfl) ?_
  exact ⟨rfl, congrArg (fun z => some ((0, z) : xV)) (by unfold y_state; (repeat' split) <;> first | rfl | (exfalso; omega) | omega), Md.rf, m, hM, Sy.rf⟩
