/-! THE CLASS: LETGO -/
abbrev Acd : Type := Acc × Nat
/-- the deals gone so far are a set that can go -/
def nGo (set l : Nat) (A : Acd) : Acd := (A.1, if sBc A.2 < sBc (xdf set l) ∨ (sBc A.2 = sBc (xdf set l) ∧ xdf set l < A.2) then xdf set l else A.2)
def lfC (m : xD) (a w : Int) (f : Nat → Int) (g : Int) (A : Acd) : Acd := (lfA m a w f g A.1, A.2)
def exC (m : xD) (a w : Int) (set : Nat) : Nat → Nat → (Nat → Int) → Int → Acd → Acd := exG (bGo m) (fUp m) (nGo set) (lfC m a w)
/-- what the class has counted -/
def ac5 (t : xD) (A : Acd) : Prop := t 272 4 = A.1.1 ∧ t 272 5 = A.1.2.1 ∧ t 272 6 = A.1.2.2.1 ∧ t 272 7 = A.1.2.2.2 ∧ t 272 8 = ((A.2 : Nat) : Int)
theorem exC_1 {m : xD} {a w : Int} {set : Nat} : ∀ (n l : Nat) (f : Nat → Int) (g : Int) (A : Acd), (exC m a w set n l f g A).1 = exA m a w n l f g A.1
  | 0, l, f, g, A => by
    show (if l = 0 then lfC m a w f g (nGo set l A) else nGo set l A).1 = (if l = 0 then lfA m a w f g A.1 else A.1)
    split <;> rfl
  | n + 1, l, f, g, A => by
    have key : ∀ (B : Acd) (C : Acc), B.1 = C → ∀ k, k ≤ 4 → (fold4 (fun d B => if l.testBit d = true ∧ bGo m d f = true then exC m a w set n (xdf l (2 ^ d)) (fUp m d f) (xadd (xadd (xmul 10 g) ((d : Nat) : Int)) 1) B else B) k B).1 = fold4 (fun d B => if l.testBit d = true ∧ bGo m d f = true then exA m a w n (xdf l (2 ^ d)) (fUp m d f) (xadd (xadd (xmul 10 g) ((d : Nat) : Int)) 1) B else B) k C := by
      intro B C hB k
      induction k with
      | zero => intro _; exact hB
      | succ k ih =>
        intro hk
        have e := ih (by omega)
        show (if l.testBit k = true ∧ bGo m k f = true then exC m a w set n (xdf l (2 ^ k)) (fUp m k f) (xadd (xadd (xmul 10 g) ((k : Nat) : Int)) 1) (fold4 _ k B) else fold4 _ k B).1 = (if l.testBit k = true ∧ bGo m k f = true then exA m a w n (xdf l (2 ^ k)) (fUp m k f) (xadd (xadd (xmul 10 g) ((k : Nat) : Int)) 1) (fold4 _ k C) else fold4 _ k C)
        by_cases c : l.testBit k = true ∧ bGo m k f = true
        · rw [if_pos c, if_pos c, exC_1 n, e]
        · rw [if_neg c, if_neg c, e]
    exact key (if l = 0 then lfC m a w f g (nGo set l A) else nGo set l A) (if l = 0 then lfA m a w f g A.1 else A.1) (by split <;> rfl) 4 (Nat.le_refl 4)
theorem c_noteGone {d : Nat} {z : Nat} {g : xG} {t : xD} {A : Acd} (L : xLay g) (hz : z < 4096) (h2 : A.2 < 4096) (hA : ac5 t A) : xCall (d + 1) 24 [(2, ((272 : Nat) : Int)), (0, ((z : Nat) : Int))] g t (fun r g1 t1 => g1 = g ∧ r = none ∧ ac5 t1 (A.1, if sBc A.2 < sBc z ∨ (sBc A.2 = sBc z ∧ z < A.2) then z else A.2) ∧ ∀ a k, ¬ (a = 272 ∧ k = 8) → t1 a k = t a k) := by
  show xOk (d + 1) 24 0 [(2, ((272 : Nat) : Int)), (0, ((z : Nat) : Int)), (3, 0)] [] g t _
  have b1_ := sBc_le (z := z)
  have b2_ := sBc_le (z := A.2)
  refine xk_load rfl (p := 1) rfl rfl ?_
  refine xk_callp rfl (p := 4) rfl (by decide) rfl (Nat.le_of_ble_eq_true rfl) (Nat.le_of_ble_eq_true rfl) (rfl) (as := [(0, ((z : Nat) : Int))]) (r := []) rfl (v := (0, ((sBc z : Nat) : Int))) (n_bitCount (hz)) ?_
  refine xk_load rfl (p := 5) rfl rfl ?_
  refine xk_getf rfl (p := 8) rfl (xob (ly_o L) (by decide)) (v := (0, ((A.2 : Nat) : Int))) (xsl0 rfl (hA.2.2.2.2)) ?_
  refine xk_callp rfl (p := 11) rfl (by decide) rfl (Nat.le_of_ble_eq_true rfl) (Nat.le_of_ble_eq_true rfl) (rfl) (as := [(0, ((A.2 : Nat) : Int))]) (r := [(0, ((sBc z : Nat) : Int))]) rfl (v := (0, ((sBc (A.2) : Nat) : Int))) (n_bitCount (h2)) ?_
  refine xk_bin rfl (p := 12) rfl (z := (((sBc z : Nat) : Int) - ((sBc (A.2) : Nat) : Int))) (congrArg some (xsub_r (by omega) (by omega))) ?_
  refine xk_store rfl (p := 13) rfl (by decide) (Nat.le_of_ble_eq_true rfl) (ls' := [(2, ((272 : Nat) : Int)), (0, ((z : Nat) : Int)), (0, (((sBc z : Nat) : Int) - ((sBc (A.2) : Nat) : Int)))]) rfl ?_
  refine xk_load rfl (p := 14) rfl rfl ?_
  refine xk_if rfl (p := 17) rfl (fun c14_1 => ?_) (fun c14_1 => ?_)
  · replace c14_1 : 0 < (((sBc z : Nat) : Int) - ((sBc (A.2) : Nat) : Int)) := c14_1
    refine xk_load rfl (p := 30) rfl rfl ?_
    refine xk_load rfl (p := 31) rfl rfl ?_
    refine xk_putf rfl (p := 34) rfl (xob (ly_o L) (by decide)) rfl (by decide) (by decide) (fun h => absurd h (by decide)) (by omega) ?_
    refine xk_ret rfl (rfl) ?_
    exact ⟨rfl, rfl, ⟨(xupd_ne (by omega)).trans hA.1, (xupd_ne (by omega)).trans hA.2.1, (xupd_ne (by omega)).trans hA.2.2.1, (xupd_ne (by omega)).trans hA.2.2.2.1, xupd_eq.trans (by rw [if_pos (by omega)])⟩, fun a k h => xupd_ne h⟩
  · replace c14_1 : ¬ (0 < (((sBc z : Nat) : Int) - ((sBc (A.2) : Nat) : Int))) := c14_1
    refine xk_load rfl (p := 18) rfl rfl ?_
    refine xk_if rfl (p := 21) rfl (fun c18_2 => ?_) (fun c18_2 => ?_)
    · replace c18_2 : ¬ ((((sBc z : Nat) : Int) - ((sBc (A.2) : Nat) : Int)) = 0) := c18_2
      refine xk_ret rfl (rfl) ?_
      exact ⟨rfl, rfl, ⟨hA.1, hA.2.1, hA.2.2.1, hA.2.2.2.1, hA.2.2.2.2.trans (by rw [if_neg (by omega)])⟩, fun a k h => rfl⟩
    · replace c18_2 : (((sBc z : Nat) : Int) - ((sBc (A.2) : Nat) : Int)) = 0 := Decidable.not_not.mp c18_2
      refine xk_load rfl (p := 22) rfl rfl ?_
      refine xk_load rfl (p := 23) rfl rfl ?_
      refine xk_getf rfl (p := 26) rfl (xob (ly_o L) (by decide)) (v := (0, ((A.2 : Nat) : Int))) (xsl0 rfl (hA.2.2.2.2)) ?_
      refine xk_icmp rfl (p := 29) rfl (fun c26_3 => ?_) (fun c26_3 => ?_)
      · replace c26_3 : ((A.2 : Nat) : Int) ≤ ((z : Nat) : Int) := c26_3
        refine xk_ret rfl (rfl) ?_
        exact ⟨rfl, rfl, ⟨hA.1, hA.2.1, hA.2.2.1, hA.2.2.2.1, hA.2.2.2.2.trans (by rw [if_neg (by omega)])⟩, fun a k h => rfl⟩
      · replace c26_3 : ¬ (((A.2 : Nat) : Int) ≤ ((z : Nat) : Int)) := c26_3
        refine xk_load rfl (p := 30) rfl rfl ?_
        refine xk_load rfl (p := 31) rfl rfl ?_
        refine xk_putf rfl (p := 34) rfl (xob (ly_o L) (by decide)) rfl (by decide) (by decide) (fun h => absurd h (by decide)) (by omega) ?_
        refine xk_ret rfl (rfl) ?_
        exact ⟨rfl, rfl, ⟨(xupd_ne (by omega)).trans hA.1, (xupd_ne (by omega)).trans hA.2.1, (xupd_ne (by omega)).trans hA.2.2.1, (xupd_ne (by omega)).trans hA.2.2.2.1, xupd_eq.trans (by rw [if_pos (by omega)])⟩, fun a k h => xupd_ne h⟩

theorem c_noteOrder {d : Nat} {e : Nat} {f : Nat → Int} {dg a w : Int} {g : xG} {t m : xD} {A : Acd} (L : xLay g) (hI : Inv m) (hR : Rep t 0 m) (he : e < 5) (hf : ∀ q, q < nN m → t (274 + e) q = f q) (hA : ac5 t A) (ha : t 272 2 = a) (hw : t 272 3 = w) (haa : a = -1 ∨ (0 ≤ a ∧ a < m 292 0)) : xCall (d) 25 [(2, ((272 : Nat) : Int)), (2, (((5 + 89 * 0) : Nat) : Int)), (2, (((274 + e) : Nat) : Int)), (0, dg)] g t (fun r g1 t1 => g1 = g ∧ r = none ∧ ac5 t1 (lfC m a w f dg A) ∧ ∀ b j, ¬ (b = 272 ∧ 4 ≤ j ∧ j ≤ 7) → t1 b j = t b j) := by
  show xOk (d) 25 0 [(2, ((272 : Nat) : Int)), (2, (((5 + 89 * 0) : Nat) : Int)), (2, (((274 + e) : Nat) : Int)), (0, dg), (3, 0), (3, 0)] [] g t _
  have iNn_ := iNn hI
  have hs : 0 < 3 := by decide
  have iS0_ := iS hI
  refine xk_load rfl (p := 1) rfl rfl ?_
  refine xk_dup rfl (p := 2) rfl (show ¬ (2 : Nat) = 1 by decide) ?_
  refine xk_getf rfl (p := 5) rfl (xob (ly_o L) (by decide)) (v := (0, A.1.1)) (xsl0 rfl (hA.1)) ?_
  refine xk_push rfl (p := 6) rfl ?_
  refine xk_bin rfl (p := 7) rfl (z := xadd (A.1.1) 1) (rfl) ?_
  refine xk_putf rfl (p := 10) rfl (xob (ly_o L) (by decide)) rfl (by decide) (by decide) (fun h => absurd h (by decide)) (by omega) ?_
  refine xk_load rfl (p := 11) rfl rfl ?_
  refine xk_getf rfl (p := 14) rfl (xob (ly_o L) (by decide)) (v := (0, a)) (xsl0 rfl ((xupd_ne (by omega)).trans (ha))) ?_
  refine xk_if rfl (p := 17) rfl (fun c14_1 => ?_) (fun c14_1 => ?_)
  · replace c14_1 : a < 0 := c14_1
    refine xk_load rfl (p := 50) rfl rfl ?_
    refine xk_getf rfl (p := 53) rfl (xob (ly_st L hs) (by decide)) (v := (2, (((8 + 89 * 0) : Nat) : Int))) (xsl2 rfl (ly_s2 L hs)) ?_
    refine xk_store rfl (p := 55) rfl (by decide) (Nat.le_of_ble_eq_true rfl) (ls' := [(2, ((272 : Nat) : Int)), (2, (((5 + 89 * 0) : Nat) : Int)), (2, (((274 + e) : Nat) : Int)), (0, dg), (2, (((8 + 89 * 0) : Nat) : Int)), (3, 0)]) rfl ?_
    refine xk_push rfl (p := 56) rfl ?_
    refine xk_store rfl (p := 58) rfl (by decide) (Nat.le_of_ble_eq_true rfl) (ls' := [(2, ((272 : Nat) : Int)), (2, (((5 + 89 * 0) : Nat) : Int)), (2, (((274 + e) : Nat) : Int)), (0, dg), (2, (((8 + 89 * 0) : Nat) : Int)), (0, 0)]) rfl ?_
    have lp2 : ∀ k : Nat, k ≤ (m 292 19).toNat → (∀ i, i < k → ¬ ¬ f (m 306 i).toNat = m 307 i) → xOk (d) 25 58 [(2, ((272 : Nat) : Int)), (2, (((5 + 89 * 0) : Nat) : Int)), (2, (((274 + e) : Nat) : Int)), (0, dg), (2, (((8 + 89 * 0) : Nat) : Int)), (0, ((k : Nat) : Int))] [] g (xupd t 272 4 (xadd (A.1.1) 1)) (fun r g1 t1 => g1 = g ∧ r = none ∧ ac5 t1 (lfC m a w f dg A) ∧ ∀ b j, ¬ (b = 272 ∧ 4 ≤ j ∧ j ≤ 7) → t1 b j = t b j) := by
      refine xk_up ((m 292 19).toNat) (fun k hkk ih2  hi1 => ?_)
      refine xk_load rfl (p := 60) rfl rfl ?_
      refine xk_load rfl (p := 62) rfl rfl ?_
      refine xk_getf rfl (p := 65) rfl (xob ((ly_p1 L hs).1) (by decide)) (v := (0, m 292 19)) (xsl0 rfl ((xupd_ne (by omega)).trans (rSn hR))) ?_
      have iS_ := iS hI
      refine xk_icmp rfl (p := 68) rfl (fun c65_3 => ?_) (fun c65_3 => ?_)
      · replace c65_3 : m 292 19 ≤ ((k : Nat) : Int) := c65_3
        refine xk_load rfl (p := 97) rfl rfl ?_
        refine xk_getf rfl (p := 100) rfl (xob (ly_o L) (by decide)) (v := (0, A.1.2.2.1)) (xsl0 rfl ((xupd_ne (by omega)).trans (hA.2.2.1))) ?_
        refine xk_if rfl (p := 103) rfl (fun c100_4 => ?_) (fun c100_4 => ?_)
        · replace c100_4 : ¬ (A.1.2.2.1 = 0) := c100_4
          refine xk_load rfl (p := 109) rfl rfl ?_
          refine xk_dup rfl (p := 110) rfl (show ¬ (2 : Nat) = 1 by decide) ?_
          refine xk_getf rfl (p := 113) rfl (xob (ly_o L) (by decide)) (v := (0, A.1.2.2.1)) (xsl0 rfl ((xupd_ne (by omega)).trans (hA.2.2.1))) ?_
          refine xk_push rfl (p := 114) rfl ?_
          refine xk_bin rfl (p := 115) rfl (z := xadd (A.1.2.2.1) 1) (rfl) ?_
          refine xk_putf rfl (p := 118) rfl (xob (ly_o L) (by decide)) rfl (by decide) (by decide) (fun h => absurd h (by decide)) (by omega) ?_
          refine xk_ret rfl (rfl) ?_
          exact ⟨rfl, rfl, ⟨(xupd_ne (by omega)).trans (xupd_eq), ((xupd_ne (by omega)).trans ((xupd_ne (by omega)).trans (hA.2.1))).trans (if_neg (fun h => by obtain ⟨x1, x2⟩ := h; first | contradiction | omega)).symm, (xupd_eq).trans (if_pos (bFit_y (fun i hi => hi1 i (by omega)))).symm, ((xupd_ne (by omega)).trans ((xupd_ne (by omega)).trans (hA.2.2.2.1))).trans (if_neg (fun h => by obtain ⟨x1, x2⟩ := h; contradiction)).symm, (xupd_ne (by omega)).trans ((xupd_ne (by omega)).trans (hA.2.2.2.2))⟩, fun b j h => (xupd_ne (by omega)).trans ((xupd_ne (by omega)).trans (rfl))⟩
        · replace c100_4 : A.1.2.2.1 = 0 := Decidable.not_not.mp c100_4
          refine xk_load rfl (p := 104) rfl rfl ?_
          refine xk_load rfl (p := 105) rfl rfl ?_
          refine xk_putf rfl (p := 108) rfl (xob (ly_o L) (by decide)) rfl (by decide) (by decide) (fun h => absurd h (by decide)) (by omega) ?_
          refine xk_load rfl (p := 109) rfl rfl ?_
          refine xk_dup rfl (p := 110) rfl (show ¬ (2 : Nat) = 1 by decide) ?_
          refine xk_getf rfl (p := 113) rfl (xob (ly_o L) (by decide)) (v := (0, A.1.2.2.1)) (xsl0 rfl ((xupd_ne (by omega)).trans (((xupd_ne (by omega)).trans (hA.2.2.1))))) ?_
          refine xk_push rfl (p := 114) rfl ?_
          refine xk_bin rfl (p := 115) rfl (z := xadd (A.1.2.2.1) 1) (rfl) ?_
          refine xk_putf rfl (p := 118) rfl (xob (ly_o L) (by decide)) rfl (by decide) (by decide) (fun h => absurd h (by decide)) (by omega) ?_
          refine xk_ret rfl (rfl) ?_
          exact ⟨rfl, rfl, ⟨(xupd_ne (by omega)).trans ((xupd_ne (by omega)).trans (xupd_eq)), ((xupd_ne (by omega)).trans ((xupd_ne (by omega)).trans ((xupd_ne (by omega)).trans (hA.2.1)))).trans (if_neg (fun h => by obtain ⟨x1, x2⟩ := h; first | contradiction | omega)).symm, (xupd_eq).trans (if_pos (bFit_y (fun i hi => hi1 i (by omega)))).symm, ((xupd_ne (by omega)).trans (xupd_eq)).trans (if_pos ⟨(bFit_y (fun i hi => hi1 i (by omega))), by assumption⟩).symm, (xupd_ne (by omega)).trans ((xupd_ne (by omega)).trans ((xupd_ne (by omega)).trans (hA.2.2.2.2)))⟩, fun b j h => (xupd_ne (by omega)).trans ((xupd_ne (by omega)).trans ((xupd_ne (by omega)).trans (rfl)))⟩
      · replace c65_3 : ¬ (m 292 19 ≤ ((k : Nat) : Int)) := c65_3
        refine xk_load rfl (p := 69) rfl rfl ?_
        refine xk_load rfl (p := 71) rfl rfl ?_
        refine xk_getf rfl (p := 74) rfl (xob ((ly_p1 L hs).1) (by decide)) (v := (2, ((((8 + 89 * 0) + 1) : Nat) : Int))) (xsl2 rfl ((ly_p1 L hs).2.2.2.1)) ?_
        refine xk_load rfl (p := 76) rfl rfl ?_
        refine xk_ald rfl (p := 77) rfl (v := (0, m 306 k)) ((xal0 ((ly_p1 L hs).2.1) (show k < 10 by omega)).trans (congrArg (fun z => some (0, z)) (((xupd_ne (by omega)).trans (rS1 hR (show ((k : Nat) : Int) < m 292 19 by omega)))))) ?_
        have iS_ := (iS hI).2.2 k (show ((k : Nat) : Int) < m 292 19 by omega)
        refine xk_aldi rfl (p := 78) rfl (show 0 ≤ m 306 k by omega) (v := (0, f ((m 306 k).toNat))) ((xal0 (ly_oi L (show e < 5 by omega)) (show (m 306 k).toNat < 12 by omega)).trans (congrArg (fun z => some (0, z)) (((xupd_ne (by omega)).trans ((hf ((m 306 k).toNat) (show (m 306 k).toNat < nN m by omega))))))) ?_
        refine xk_load rfl (p := 80) rfl rfl ?_
        refine xk_getf rfl (p := 83) rfl (xob ((ly_p1 L hs).1) (by decide)) (v := (2, ((((8 + 89 * 0) + 2) : Nat) : Int))) (xsl2 rfl ((ly_p1 L hs).2.2.2.2)) ?_
        refine xk_load rfl (p := 85) rfl rfl ?_
        refine xk_ald rfl (p := 86) rfl (v := (0, m 307 k)) ((xal0 ((ly_p1 L hs).2.2.1) (show k < 10 by omega)).trans (congrArg (fun z => some (0, z)) (((xupd_ne (by omega)).trans (rS2 hR (show ((k : Nat) : Int) < m 292 19 by omega)))))) ?_
        refine xk_icmp rfl (p := 89) rfl (fun c86_5 => ?_) (fun c86_5 => ?_)
        · replace c86_5 : f ((m 306 k).toNat) = m 307 k := c86_5
          refine xk_inc1 rfl (p := 93) rfl (n := k) rfl (by omega) (ls' := [(2, ((272 : Nat) : Int)), (2, (((5 + 89 * 0) : Nat) : Int)), (2, (((274 + e) : Nat) : Int)), (0, dg), (2, (((8 + 89 * 0) : Nat) : Int)), (0, ((k + 1 : Nat) : Int))]) rfl ?_
          refine xk_goto rfl ?_
          exact ih2 (by omega)  (by exact xall_up hi1 (by omega))
        · replace c86_5 : ¬ (f ((m 306 k).toNat) = m 307 k) := c86_5
          refine xk_ret rfl (rfl) ?_
          exact ⟨rfl, rfl, ⟨xupd_eq, ((xupd_ne (by omega)).trans (hA.2.1)).trans (if_neg (fun h => by obtain ⟨x1, x2⟩ := h; first | contradiction | omega)).symm, ((xupd_ne (by omega)).trans (hA.2.2.1)).trans (if_neg (bFit_n (i := k) (by omega) (by assumption))).symm, ((xupd_ne (by omega)).trans (hA.2.2.2.1)).trans (if_neg (fun h => (bFit_n (i := k) (by omega) (by assumption)) h.1)).symm, (xupd_ne (by omega)).trans (hA.2.2.2.2)⟩, fun b j h => (xupd_ne (by omega)).trans (rfl)⟩
    exact lp2 0 (by omega)  (by intro i h; omega)
  · replace c14_1 : ¬ (a < 0) := c14_1
    refine xk_load rfl (p := 18) rfl rfl ?_
    refine xk_getf rfl (p := 21) rfl (xob (ly_o L) (by decide)) (v := (0, a)) (xsl0 rfl ((xupd_ne (by omega)).trans (ha))) ?_
    refine xk_push rfl (p := 23) rfl ?_
    refine xk_icmp rfl (p := 26) rfl (fun c23_6 => ?_) (fun c23_6 => ?_)
    · replace c23_6 : 12 ≤ a := c23_6
      refine xk_load rfl (p := 50) rfl rfl ?_
      refine xk_getf rfl (p := 53) rfl (xob (ly_st L hs) (by decide)) (v := (2, (((8 + 89 * 0) : Nat) : Int))) (xsl2 rfl (ly_s2 L hs)) ?_
      refine xk_store rfl (p := 55) rfl (by decide) (Nat.le_of_ble_eq_true rfl) (ls' := [(2, ((272 : Nat) : Int)), (2, (((5 + 89 * 0) : Nat) : Int)), (2, (((274 + e) : Nat) : Int)), (0, dg), (2, (((8 + 89 * 0) : Nat) : Int)), (3, 0)]) rfl ?_
      refine xk_push rfl (p := 56) rfl ?_
      refine xk_store rfl (p := 58) rfl (by decide) (Nat.le_of_ble_eq_true rfl) (ls' := [(2, ((272 : Nat) : Int)), (2, (((5 + 89 * 0) : Nat) : Int)), (2, (((274 + e) : Nat) : Int)), (0, dg), (2, (((8 + 89 * 0) : Nat) : Int)), (0, 0)]) rfl ?_
      have lp7 : ∀ k : Nat, k ≤ (m 292 19).toNat → (∀ i, i < k → ¬ ¬ f (m 306 i).toNat = m 307 i) → xOk (d) 25 58 [(2, ((272 : Nat) : Int)), (2, (((5 + 89 * 0) : Nat) : Int)), (2, (((274 + e) : Nat) : Int)), (0, dg), (2, (((8 + 89 * 0) : Nat) : Int)), (0, ((k : Nat) : Int))] [] g (xupd t 272 4 (xadd (A.1.1) 1)) (fun r g1 t1 => g1 = g ∧ r = none ∧ ac5 t1 (lfC m a w f dg A) ∧ ∀ b j, ¬ (b = 272 ∧ 4 ≤ j ∧ j ≤ 7) → t1 b j = t b j) := by
        refine xk_up ((m 292 19).toNat) (fun k hkk ih7  hi1 => ?_)
        refine xk_load rfl (p := 60) rfl rfl ?_
        refine xk_load rfl (p := 62) rfl rfl ?_
        refine xk_getf rfl (p := 65) rfl (xob ((ly_p1 L hs).1) (by decide)) (v := (0, m 292 19)) (xsl0 rfl ((xupd_ne (by omega)).trans (rSn hR))) ?_
        have iS_ := iS hI
        refine xk_icmp rfl (p := 68) rfl (fun c65_8 => ?_) (fun c65_8 => ?_)
        · replace c65_8 : m 292 19 ≤ ((k : Nat) : Int) := c65_8
          refine xk_load rfl (p := 97) rfl rfl ?_
          refine xk_getf rfl (p := 100) rfl (xob (ly_o L) (by decide)) (v := (0, A.1.2.2.1)) (xsl0 rfl ((xupd_ne (by omega)).trans (hA.2.2.1))) ?_
          refine xk_if rfl (p := 103) rfl (fun c100_9 => ?_) (fun c100_9 => ?_)
          · replace c100_9 : ¬ (A.1.2.2.1 = 0) := c100_9
            refine xk_load rfl (p := 109) rfl rfl ?_
            refine xk_dup rfl (p := 110) rfl (show ¬ (2 : Nat) = 1 by decide) ?_
            refine xk_getf rfl (p := 113) rfl (xob (ly_o L) (by decide)) (v := (0, A.1.2.2.1)) (xsl0 rfl ((xupd_ne (by omega)).trans (hA.2.2.1))) ?_
            refine xk_push rfl (p := 114) rfl ?_
            refine xk_bin rfl (p := 115) rfl (z := xadd (A.1.2.2.1) 1) (rfl) ?_
            refine xk_putf rfl (p := 118) rfl (xob (ly_o L) (by decide)) rfl (by decide) (by decide) (fun h => absurd h (by decide)) (by omega) ?_
            refine xk_ret rfl (rfl) ?_
            exact ⟨rfl, rfl, ⟨(xupd_ne (by omega)).trans (xupd_eq), ((xupd_ne (by omega)).trans ((xupd_ne (by omega)).trans (hA.2.1))).trans (if_neg (fun h => by obtain ⟨x1, x2⟩ := h; first | contradiction | omega)).symm, (xupd_eq).trans (if_pos (bFit_y (fun i hi => hi1 i (by omega)))).symm, ((xupd_ne (by omega)).trans ((xupd_ne (by omega)).trans (hA.2.2.2.1))).trans (if_neg (fun h => by obtain ⟨x1, x2⟩ := h; contradiction)).symm, (xupd_ne (by omega)).trans ((xupd_ne (by omega)).trans (hA.2.2.2.2))⟩, fun b j h => (xupd_ne (by omega)).trans ((xupd_ne (by omega)).trans (rfl))⟩
          · replace c100_9 : A.1.2.2.1 = 0 := Decidable.not_not.mp c100_9
            refine xk_load rfl (p := 104) rfl rfl ?_
            refine xk_load rfl (p := 105) rfl rfl ?_
            refine xk_putf rfl (p := 108) rfl (xob (ly_o L) (by decide)) rfl (by decide) (by decide) (fun h => absurd h (by decide)) (by omega) ?_
            refine xk_load rfl (p := 109) rfl rfl ?_
            refine xk_dup rfl (p := 110) rfl (show ¬ (2 : Nat) = 1 by decide) ?_
            refine xk_getf rfl (p := 113) rfl (xob (ly_o L) (by decide)) (v := (0, A.1.2.2.1)) (xsl0 rfl ((xupd_ne (by omega)).trans (((xupd_ne (by omega)).trans (hA.2.2.1))))) ?_
            refine xk_push rfl (p := 114) rfl ?_
            refine xk_bin rfl (p := 115) rfl (z := xadd (A.1.2.2.1) 1) (rfl) ?_
            refine xk_putf rfl (p := 118) rfl (xob (ly_o L) (by decide)) rfl (by decide) (by decide) (fun h => absurd h (by decide)) (by omega) ?_
            refine xk_ret rfl (rfl) ?_
            exact ⟨rfl, rfl, ⟨(xupd_ne (by omega)).trans ((xupd_ne (by omega)).trans (xupd_eq)), ((xupd_ne (by omega)).trans ((xupd_ne (by omega)).trans ((xupd_ne (by omega)).trans (hA.2.1)))).trans (if_neg (fun h => by obtain ⟨x1, x2⟩ := h; first | contradiction | omega)).symm, (xupd_eq).trans (if_pos (bFit_y (fun i hi => hi1 i (by omega)))).symm, ((xupd_ne (by omega)).trans (xupd_eq)).trans (if_pos ⟨(bFit_y (fun i hi => hi1 i (by omega))), by assumption⟩).symm, (xupd_ne (by omega)).trans ((xupd_ne (by omega)).trans ((xupd_ne (by omega)).trans (hA.2.2.2.2)))⟩, fun b j h => (xupd_ne (by omega)).trans ((xupd_ne (by omega)).trans ((xupd_ne (by omega)).trans (rfl)))⟩
        · replace c65_8 : ¬ (m 292 19 ≤ ((k : Nat) : Int)) := c65_8
          refine xk_load rfl (p := 69) rfl rfl ?_
          refine xk_load rfl (p := 71) rfl rfl ?_
          refine xk_getf rfl (p := 74) rfl (xob ((ly_p1 L hs).1) (by decide)) (v := (2, ((((8 + 89 * 0) + 1) : Nat) : Int))) (xsl2 rfl ((ly_p1 L hs).2.2.2.1)) ?_
          refine xk_load rfl (p := 76) rfl rfl ?_
          refine xk_ald rfl (p := 77) rfl (v := (0, m 306 k)) ((xal0 ((ly_p1 L hs).2.1) (show k < 10 by omega)).trans (congrArg (fun z => some (0, z)) (((xupd_ne (by omega)).trans (rS1 hR (show ((k : Nat) : Int) < m 292 19 by omega)))))) ?_
          have iS_ := (iS hI).2.2 k (show ((k : Nat) : Int) < m 292 19 by omega)
          refine xk_aldi rfl (p := 78) rfl (show 0 ≤ m 306 k by omega) (v := (0, f ((m 306 k).toNat))) ((xal0 (ly_oi L (show e < 5 by omega)) (show (m 306 k).toNat < 12 by omega)).trans (congrArg (fun z => some (0, z)) (((xupd_ne (by omega)).trans ((hf ((m 306 k).toNat) (show (m 306 k).toNat < nN m by omega))))))) ?_
          refine xk_load rfl (p := 80) rfl rfl ?_
          refine xk_getf rfl (p := 83) rfl (xob ((ly_p1 L hs).1) (by decide)) (v := (2, ((((8 + 89 * 0) + 2) : Nat) : Int))) (xsl2 rfl ((ly_p1 L hs).2.2.2.2)) ?_
          refine xk_load rfl (p := 85) rfl rfl ?_
          refine xk_ald rfl (p := 86) rfl (v := (0, m 307 k)) ((xal0 ((ly_p1 L hs).2.2.1) (show k < 10 by omega)).trans (congrArg (fun z => some (0, z)) (((xupd_ne (by omega)).trans (rS2 hR (show ((k : Nat) : Int) < m 292 19 by omega)))))) ?_
          refine xk_icmp rfl (p := 89) rfl (fun c86_10 => ?_) (fun c86_10 => ?_)
          · replace c86_10 : f ((m 306 k).toNat) = m 307 k := c86_10
            refine xk_inc1 rfl (p := 93) rfl (n := k) rfl (by omega) (ls' := [(2, ((272 : Nat) : Int)), (2, (((5 + 89 * 0) : Nat) : Int)), (2, (((274 + e) : Nat) : Int)), (0, dg), (2, (((8 + 89 * 0) : Nat) : Int)), (0, ((k + 1 : Nat) : Int))]) rfl ?_
            refine xk_goto rfl ?_
            exact ih7 (by omega)  (by exact xall_up hi1 (by omega))
          · replace c86_10 : ¬ (f ((m 306 k).toNat) = m 307 k) := c86_10
            refine xk_ret rfl (rfl) ?_
            exact ⟨rfl, rfl, ⟨xupd_eq, ((xupd_ne (by omega)).trans (hA.2.1)).trans (if_neg (fun h => by obtain ⟨x1, x2⟩ := h; first | contradiction | omega)).symm, ((xupd_ne (by omega)).trans (hA.2.2.1)).trans (if_neg (bFit_n (i := k) (by omega) (by assumption))).symm, ((xupd_ne (by omega)).trans (hA.2.2.2.1)).trans (if_neg (fun h => (bFit_n (i := k) (by omega) (by assumption)) h.1)).symm, (xupd_ne (by omega)).trans (hA.2.2.2.2)⟩, fun b j h => (xupd_ne (by omega)).trans (rfl)⟩
      exact lp7 0 (by omega)  (by intro i h; omega)
    · replace c23_6 : ¬ (12 ≤ a) := c23_6
      refine xk_load rfl (p := 27) rfl rfl ?_
      refine xk_load rfl (p := 28) rfl rfl ?_
      refine xk_getf rfl (p := 31) rfl (xob (ly_o L) (by decide)) (v := (0, a)) (xsl0 rfl ((xupd_ne (by omega)).trans (ha))) ?_
      refine xk_aldi rfl (p := 32) rfl (show 0 ≤ a by omega) (v := (0, f (a.toNat))) ((xal0 (ly_oi L (show e < 5 by omega)) (show a.toNat < 12 by omega)).trans (congrArg (fun z => some (0, z)) (((xupd_ne (by omega)).trans ((hf (a.toNat) (show a.toNat < nN m by omega))))))) ?_
      refine xk_load rfl (p := 33) rfl rfl ?_
      refine xk_getf rfl (p := 36) rfl (xob (ly_o L) (by decide)) (v := (0, w)) (xsl0 rfl ((xupd_ne (by omega)).trans (hw))) ?_
      refine xk_icmp rfl (p := 39) rfl (fun c36_11 => ?_) (fun c36_11 => ?_)
      · replace c36_11 : ¬ (f (a.toNat) = w) := c36_11
        refine xk_load rfl (p := 50) rfl rfl ?_
        refine xk_getf rfl (p := 53) rfl (xob (ly_st L hs) (by decide)) (v := (2, (((8 + 89 * 0) : Nat) : Int))) (xsl2 rfl (ly_s2 L hs)) ?_
        refine xk_store rfl (p := 55) rfl (by decide) (Nat.le_of_ble_eq_true rfl) (ls' := [(2, ((272 : Nat) : Int)), (2, (((5 + 89 * 0) : Nat) : Int)), (2, (((274 + e) : Nat) : Int)), (0, dg), (2, (((8 + 89 * 0) : Nat) : Int)), (3, 0)]) rfl ?_
        refine xk_push rfl (p := 56) rfl ?_
        refine xk_store rfl (p := 58) rfl (by decide) (Nat.le_of_ble_eq_true rfl) (ls' := [(2, ((272 : Nat) : Int)), (2, (((5 + 89 * 0) : Nat) : Int)), (2, (((274 + e) : Nat) : Int)), (0, dg), (2, (((8 + 89 * 0) : Nat) : Int)), (0, 0)]) rfl ?_
        have lp12 : ∀ k : Nat, k ≤ (m 292 19).toNat → (∀ i, i < k → ¬ ¬ f (m 306 i).toNat = m 307 i) → xOk (d) 25 58 [(2, ((272 : Nat) : Int)), (2, (((5 + 89 * 0) : Nat) : Int)), (2, (((274 + e) : Nat) : Int)), (0, dg), (2, (((8 + 89 * 0) : Nat) : Int)), (0, ((k : Nat) : Int))] [] g (xupd t 272 4 (xadd (A.1.1) 1)) (fun r g1 t1 => g1 = g ∧ r = none ∧ ac5 t1 (lfC m a w f dg A) ∧ ∀ b j, ¬ (b = 272 ∧ 4 ≤ j ∧ j ≤ 7) → t1 b j = t b j) := by
          refine xk_up ((m 292 19).toNat) (fun k hkk ih12  hi1 => ?_)
          refine xk_load rfl (p := 60) rfl rfl ?_
          refine xk_load rfl (p := 62) rfl rfl ?_
          refine xk_getf rfl (p := 65) rfl (xob ((ly_p1 L hs).1) (by decide)) (v := (0, m 292 19)) (xsl0 rfl ((xupd_ne (by omega)).trans (rSn hR))) ?_
          have iS_ := iS hI
          refine xk_icmp rfl (p := 68) rfl (fun c65_13 => ?_) (fun c65_13 => ?_)
          · replace c65_13 : m 292 19 ≤ ((k : Nat) : Int) := c65_13
            refine xk_load rfl (p := 97) rfl rfl ?_
            refine xk_getf rfl (p := 100) rfl (xob (ly_o L) (by decide)) (v := (0, A.1.2.2.1)) (xsl0 rfl ((xupd_ne (by omega)).trans (hA.2.2.1))) ?_
            refine xk_if rfl (p := 103) rfl (fun c100_14 => ?_) (fun c100_14 => ?_)
            · replace c100_14 : ¬ (A.1.2.2.1 = 0) := c100_14
              refine xk_load rfl (p := 109) rfl rfl ?_
              refine xk_dup rfl (p := 110) rfl (show ¬ (2 : Nat) = 1 by decide) ?_
              refine xk_getf rfl (p := 113) rfl (xob (ly_o L) (by decide)) (v := (0, A.1.2.2.1)) (xsl0 rfl ((xupd_ne (by omega)).trans (hA.2.2.1))) ?_
              refine xk_push rfl (p := 114) rfl ?_
              refine xk_bin rfl (p := 115) rfl (z := xadd (A.1.2.2.1) 1) (rfl) ?_
              refine xk_putf rfl (p := 118) rfl (xob (ly_o L) (by decide)) rfl (by decide) (by decide) (fun h => absurd h (by decide)) (by omega) ?_
              refine xk_ret rfl (rfl) ?_
              exact ⟨rfl, rfl, ⟨(xupd_ne (by omega)).trans (xupd_eq), ((xupd_ne (by omega)).trans ((xupd_ne (by omega)).trans (hA.2.1))).trans (if_neg (fun h => by obtain ⟨x1, x2⟩ := h; first | contradiction | omega)).symm, (xupd_eq).trans (if_pos (bFit_y (fun i hi => hi1 i (by omega)))).symm, ((xupd_ne (by omega)).trans ((xupd_ne (by omega)).trans (hA.2.2.2.1))).trans (if_neg (fun h => by obtain ⟨x1, x2⟩ := h; contradiction)).symm, (xupd_ne (by omega)).trans ((xupd_ne (by omega)).trans (hA.2.2.2.2))⟩, fun b j h => (xupd_ne (by omega)).trans ((xupd_ne (by omega)).trans (rfl))⟩
            · replace c100_14 : A.1.2.2.1 = 0 := Decidable.not_not.mp c100_14
              refine xk_load rfl (p := 104) rfl rfl ?_
              refine xk_load rfl (p := 105) rfl rfl ?_
              refine xk_putf rfl (p := 108) rfl (xob (ly_o L) (by decide)) rfl (by decide) (by decide) (fun h => absurd h (by decide)) (by omega) ?_
              refine xk_load rfl (p := 109) rfl rfl ?_
              refine xk_dup rfl (p := 110) rfl (show ¬ (2 : Nat) = 1 by decide) ?_
              refine xk_getf rfl (p := 113) rfl (xob (ly_o L) (by decide)) (v := (0, A.1.2.2.1)) (xsl0 rfl ((xupd_ne (by omega)).trans (((xupd_ne (by omega)).trans (hA.2.2.1))))) ?_
              refine xk_push rfl (p := 114) rfl ?_
              refine xk_bin rfl (p := 115) rfl (z := xadd (A.1.2.2.1) 1) (rfl) ?_
              refine xk_putf rfl (p := 118) rfl (xob (ly_o L) (by decide)) rfl (by decide) (by decide) (fun h => absurd h (by decide)) (by omega) ?_
              refine xk_ret rfl (rfl) ?_
              exact ⟨rfl, rfl, ⟨(xupd_ne (by omega)).trans ((xupd_ne (by omega)).trans (xupd_eq)), ((xupd_ne (by omega)).trans ((xupd_ne (by omega)).trans ((xupd_ne (by omega)).trans (hA.2.1)))).trans (if_neg (fun h => by obtain ⟨x1, x2⟩ := h; first | contradiction | omega)).symm, (xupd_eq).trans (if_pos (bFit_y (fun i hi => hi1 i (by omega)))).symm, ((xupd_ne (by omega)).trans (xupd_eq)).trans (if_pos ⟨(bFit_y (fun i hi => hi1 i (by omega))), by assumption⟩).symm, (xupd_ne (by omega)).trans ((xupd_ne (by omega)).trans ((xupd_ne (by omega)).trans (hA.2.2.2.2)))⟩, fun b j h => (xupd_ne (by omega)).trans ((xupd_ne (by omega)).trans ((xupd_ne (by omega)).trans (rfl)))⟩
          · replace c65_13 : ¬ (m 292 19 ≤ ((k : Nat) : Int)) := c65_13
            refine xk_load rfl (p := 69) rfl rfl ?_
            refine xk_load rfl (p := 71) rfl rfl ?_
            refine xk_getf rfl (p := 74) rfl (xob ((ly_p1 L hs).1) (by decide)) (v := (2, ((((8 + 89 * 0) + 1) : Nat) : Int))) (xsl2 rfl ((ly_p1 L hs).2.2.2.1)) ?_
            refine xk_load rfl (p := 76) rfl rfl ?_
            refine xk_ald rfl (p := 77) rfl (v := (0, m 306 k)) ((xal0 ((ly_p1 L hs).2.1) (show k < 10 by omega)).trans (congrArg (fun z => some (0, z)) (((xupd_ne (by omega)).trans (rS1 hR (show ((k : Nat) : Int) < m 292 19 by omega)))))) ?_
            have iS_ := (iS hI).2.2 k (show ((k : Nat) : Int) < m 292 19 by omega)
            refine xk_aldi rfl (p := 78) rfl (show 0 ≤ m 306 k by omega) (v := (0, f ((m 306 k).toNat))) ((xal0 (ly_oi L (show e < 5 by omega)) (show (m 306 k).toNat < 12 by omega)).trans (congrArg (fun z => some (0, z)) (((xupd_ne (by omega)).trans ((hf ((m 306 k).toNat) (show (m 306 k).toNat < nN m by omega))))))) ?_
            refine xk_load rfl (p := 80) rfl rfl ?_
            refine xk_getf rfl (p := 83) rfl (xob ((ly_p1 L hs).1) (by decide)) (v := (2, ((((8 + 89 * 0) + 2) : Nat) : Int))) (xsl2 rfl ((ly_p1 L hs).2.2.2.2)) ?_
            refine xk_load rfl (p := 85) rfl rfl ?_
            refine xk_ald rfl (p := 86) rfl (v := (0, m 307 k)) ((xal0 ((ly_p1 L hs).2.2.1) (show k < 10 by omega)).trans (congrArg (fun z => some (0, z)) (((xupd_ne (by omega)).trans (rS2 hR (show ((k : Nat) : Int) < m 292 19 by omega)))))) ?_
            refine xk_icmp rfl (p := 89) rfl (fun c86_15 => ?_) (fun c86_15 => ?_)
            · replace c86_15 : f ((m 306 k).toNat) = m 307 k := c86_15
              refine xk_inc1 rfl (p := 93) rfl (n := k) rfl (by omega) (ls' := [(2, ((272 : Nat) : Int)), (2, (((5 + 89 * 0) : Nat) : Int)), (2, (((274 + e) : Nat) : Int)), (0, dg), (2, (((8 + 89 * 0) : Nat) : Int)), (0, ((k + 1 : Nat) : Int))]) rfl ?_
              refine xk_goto rfl ?_
              exact ih12 (by omega)  (by exact xall_up hi1 (by omega))
            · replace c86_15 : ¬ (f ((m 306 k).toNat) = m 307 k) := c86_15
              refine xk_ret rfl (rfl) ?_
              exact ⟨rfl, rfl, ⟨xupd_eq, ((xupd_ne (by omega)).trans (hA.2.1)).trans (if_neg (fun h => by obtain ⟨x1, x2⟩ := h; first | contradiction | omega)).symm, ((xupd_ne (by omega)).trans (hA.2.2.1)).trans (if_neg (bFit_n (i := k) (by omega) (by assumption))).symm, ((xupd_ne (by omega)).trans (hA.2.2.2.1)).trans (if_neg (fun h => (bFit_n (i := k) (by omega) (by assumption)) h.1)).symm, (xupd_ne (by omega)).trans (hA.2.2.2.2)⟩, fun b j h => (xupd_ne (by omega)).trans (rfl)⟩
        exact lp12 0 (by omega)  (by intro i h; omega)
      · replace c36_11 : f (a.toNat) = w := Decidable.not_not.mp c36_11
        refine xk_load rfl (p := 40) rfl rfl ?_
        refine xk_dup rfl (p := 41) rfl (show ¬ (2 : Nat) = 1 by decide) ?_
        refine xk_getf rfl (p := 44) rfl (xob (ly_o L) (by decide)) (v := (0, A.1.2.1)) (xsl0 rfl ((xupd_ne (by omega)).trans (hA.2.1))) ?_
        refine xk_push rfl (p := 45) rfl ?_
        refine xk_bin rfl (p := 46) rfl (z := xadd (A.1.2.1) 1) (rfl) ?_
        refine xk_putf rfl (p := 49) rfl (xob (ly_o L) (by decide)) rfl (by decide) (by decide) (fun h => absurd h (by decide)) (by omega) ?_
        refine xk_load rfl (p := 50) rfl rfl ?_
        refine xk_getf rfl (p := 53) rfl (xob (ly_st L hs) (by decide)) (v := (2, (((8 + 89 * 0) : Nat) : Int))) (xsl2 rfl (ly_s2 L hs)) ?_
        refine xk_store rfl (p := 55) rfl (by decide) (Nat.le_of_ble_eq_true rfl) (ls' := [(2, ((272 : Nat) : Int)), (2, (((5 + 89 * 0) : Nat) : Int)), (2, (((274 + e) : Nat) : Int)), (0, dg), (2, (((8 + 89 * 0) : Nat) : Int)), (3, 0)]) rfl ?_
        refine xk_push rfl (p := 56) rfl ?_
        refine xk_store rfl (p := 58) rfl (by decide) (Nat.le_of_ble_eq_true rfl) (ls' := [(2, ((272 : Nat) : Int)), (2, (((5 + 89 * 0) : Nat) : Int)), (2, (((274 + e) : Nat) : Int)), (0, dg), (2, (((8 + 89 * 0) : Nat) : Int)), (0, 0)]) rfl ?_
        have lp16 : ∀ k : Nat, k ≤ (m 292 19).toNat → (∀ i, i < k → ¬ ¬ f (m 306 i).toNat = m 307 i) → xOk (d) 25 58 [(2, ((272 : Nat) : Int)), (2, (((5 + 89 * 0) : Nat) : Int)), (2, (((274 + e) : Nat) : Int)), (0, dg), (2, (((8 + 89 * 0) : Nat) : Int)), (0, ((k : Nat) : Int))] [] g (xupd (xupd t 272 4 (xadd (A.1.1) 1)) 272 5 (xadd (A.1.2.1) 1)) (fun r g1 t1 => g1 = g ∧ r = none ∧ ac5 t1 (lfC m a w f dg A) ∧ ∀ b j, ¬ (b = 272 ∧ 4 ≤ j ∧ j ≤ 7) → t1 b j = t b j) := by
          refine xk_up ((m 292 19).toNat) (fun k hkk ih16  hi1 => ?_)
          refine xk_load rfl (p := 60) rfl rfl ?_
          refine xk_load rfl (p := 62) rfl rfl ?_
          refine xk_getf rfl (p := 65) rfl (xob ((ly_p1 L hs).1) (by decide)) (v := (0, m 292 19)) (xsl0 rfl ((xupd_ne (by omega)).trans (((xupd_ne (by omega)).trans (rSn hR))))) ?_
          have iS_ := iS hI
          refine xk_icmp rfl (p := 68) rfl (fun c65_17 => ?_) (fun c65_17 => ?_)
          · replace c65_17 : m 292 19 ≤ ((k : Nat) : Int) := c65_17
            refine xk_load rfl (p := 97) rfl rfl ?_
            refine xk_getf rfl (p := 100) rfl (xob (ly_o L) (by decide)) (v := (0, A.1.2.2.1)) (xsl0 rfl ((xupd_ne (by omega)).trans (((xupd_ne (by omega)).trans (hA.2.2.1))))) ?_
            refine xk_if rfl (p := 103) rfl (fun c100_18 => ?_) (fun c100_18 => ?_)
            · replace c100_18 : ¬ (A.1.2.2.1 = 0) := c100_18
              refine xk_load rfl (p := 109) rfl rfl ?_
              refine xk_dup rfl (p := 110) rfl (show ¬ (2 : Nat) = 1 by decide) ?_
              refine xk_getf rfl (p := 113) rfl (xob (ly_o L) (by decide)) (v := (0, A.1.2.2.1)) (xsl0 rfl ((xupd_ne (by omega)).trans (((xupd_ne (by omega)).trans (hA.2.2.1))))) ?_
              refine xk_push rfl (p := 114) rfl ?_
              refine xk_bin rfl (p := 115) rfl (z := xadd (A.1.2.2.1) 1) (rfl) ?_
              refine xk_putf rfl (p := 118) rfl (xob (ly_o L) (by decide)) rfl (by decide) (by decide) (fun h => absurd h (by decide)) (by omega) ?_
              refine xk_ret rfl (rfl) ?_
              exact ⟨rfl, rfl, ⟨(xupd_ne (by omega)).trans ((xupd_ne (by omega)).trans (xupd_eq)), ((xupd_ne (by omega)).trans (xupd_eq)).trans (if_pos ⟨by omega, by assumption⟩).symm, (xupd_eq).trans (if_pos (bFit_y (fun i hi => hi1 i (by omega)))).symm, ((xupd_ne (by omega)).trans ((xupd_ne (by omega)).trans ((xupd_ne (by omega)).trans (hA.2.2.2.1)))).trans (if_neg (fun h => by obtain ⟨x1, x2⟩ := h; contradiction)).symm, (xupd_ne (by omega)).trans ((xupd_ne (by omega)).trans ((xupd_ne (by omega)).trans (hA.2.2.2.2)))⟩, fun b j h => (xupd_ne (by omega)).trans ((xupd_ne (by omega)).trans ((xupd_ne (by omega)).trans (rfl)))⟩
            · replace c100_18 : A.1.2.2.1 = 0 := Decidable.not_not.mp c100_18
              refine xk_load rfl (p := 104) rfl rfl ?_
              refine xk_load rfl (p := 105) rfl rfl ?_
              refine xk_putf rfl (p := 108) rfl (xob (ly_o L) (by decide)) rfl (by decide) (by decide) (fun h => absurd h (by decide)) (by omega) ?_
              refine xk_load rfl (p := 109) rfl rfl ?_
              refine xk_dup rfl (p := 110) rfl (show ¬ (2 : Nat) = 1 by decide) ?_
              refine xk_getf rfl (p := 113) rfl (xob (ly_o L) (by decide)) (v := (0, A.1.2.2.1)) (xsl0 rfl ((xupd_ne (by omega)).trans (((xupd_ne (by omega)).trans (((xupd_ne (by omega)).trans (hA.2.2.1))))))) ?_
              refine xk_push rfl (p := 114) rfl ?_
              refine xk_bin rfl (p := 115) rfl (z := xadd (A.1.2.2.1) 1) (rfl) ?_
              refine xk_putf rfl (p := 118) rfl (xob (ly_o L) (by decide)) rfl (by decide) (by decide) (fun h => absurd h (by decide)) (by omega) ?_
              refine xk_ret rfl (rfl) ?_
              exact ⟨rfl, rfl, ⟨(xupd_ne (by omega)).trans ((xupd_ne (by omega)).trans ((xupd_ne (by omega)).trans (xupd_eq))), ((xupd_ne (by omega)).trans ((xupd_ne (by omega)).trans (xupd_eq))).trans (if_pos ⟨by omega, by assumption⟩).symm, (xupd_eq).trans (if_pos (bFit_y (fun i hi => hi1 i (by omega)))).symm, ((xupd_ne (by omega)).trans (xupd_eq)).trans (if_pos ⟨(bFit_y (fun i hi => hi1 i (by omega))), by assumption⟩).symm, (xupd_ne (by omega)).trans ((xupd_ne (by omega)).trans ((xupd_ne (by omega)).trans ((xupd_ne (by omega)).trans (hA.2.2.2.2))))⟩, fun b j h => (xupd_ne (by omega)).trans ((xupd_ne (by omega)).trans ((xupd_ne (by omega)).trans ((xupd_ne (by omega)).trans (rfl))))⟩
          · replace c65_17 : ¬ (m 292 19 ≤ ((k : Nat) : Int)) := c65_17
            refine xk_load rfl (p := 69) rfl rfl ?_
            refine xk_load rfl (p := 71) rfl rfl ?_
            refine xk_getf rfl (p := 74) rfl (xob ((ly_p1 L hs).1) (by decide)) (v := (2, ((((8 + 89 * 0) + 1) : Nat) : Int))) (xsl2 rfl ((ly_p1 L hs).2.2.2.1)) ?_
            refine xk_load rfl (p := 76) rfl rfl ?_
            refine xk_ald rfl (p := 77) rfl (v := (0, m 306 k)) ((xal0 ((ly_p1 L hs).2.1) (show k < 10 by omega)).trans (congrArg (fun z => some (0, z)) (((xupd_ne (by omega)).trans (((xupd_ne (by omega)).trans (rS1 hR (show ((k : Nat) : Int) < m 292 19 by omega)))))))) ?_
            have iS_ := (iS hI).2.2 k (show ((k : Nat) : Int) < m 292 19 by omega)
            refine xk_aldi rfl (p := 78) rfl (show 0 ≤ m 306 k by omega) (v := (0, f ((m 306 k).toNat))) ((xal0 (ly_oi L (show e < 5 by omega)) (show (m 306 k).toNat < 12 by omega)).trans (congrArg (fun z => some (0, z)) (((xupd_ne (by omega)).trans (((xupd_ne (by omega)).trans ((hf ((m 306 k).toNat) (show (m 306 k).toNat < nN m by omega))))))))) ?_
            refine xk_load rfl (p := 80) rfl rfl ?_
            refine xk_getf rfl (p := 83) rfl (xob ((ly_p1 L hs).1) (by decide)) (v := (2, ((((8 + 89 * 0) + 2) : Nat) : Int))) (xsl2 rfl ((ly_p1 L hs).2.2.2.2)) ?_
            refine xk_load rfl (p := 85) rfl rfl ?_
            refine xk_ald rfl (p := 86) rfl (v := (0, m 307 k)) ((xal0 ((ly_p1 L hs).2.2.1) (show k < 10 by omega)).trans (congrArg (fun z => some (0, z)) (((xupd_ne (by omega)).trans (((xupd_ne (by omega)).trans (rS2 hR (show ((k : Nat) : Int) < m 292 19 by omega)))))))) ?_
            refine xk_icmp rfl (p := 89) rfl (fun c86_19 => ?_) (fun c86_19 => ?_)
            · replace c86_19 : f ((m 306 k).toNat) = m 307 k := c86_19
              refine xk_inc1 rfl (p := 93) rfl (n := k) rfl (by omega) (ls' := [(2, ((272 : Nat) : Int)), (2, (((5 + 89 * 0) : Nat) : Int)), (2, (((274 + e) : Nat) : Int)), (0, dg), (2, (((8 + 89 * 0) : Nat) : Int)), (0, ((k + 1 : Nat) : Int))]) rfl ?_
              refine xk_goto rfl ?_
              exact ih16 (by omega)  (by exact xall_up hi1 (by omega))
            · replace c86_19 : ¬ (f ((m 306 k).toNat) = m 307 k) := c86_19
              refine xk_ret rfl (rfl) ?_
              exact ⟨rfl, rfl, ⟨(xupd_ne (by omega)).trans (xupd_eq), (xupd_eq).trans (if_pos ⟨by omega, by assumption⟩).symm, ((xupd_ne (by omega)).trans ((xupd_ne (by omega)).trans (hA.2.2.1))).trans (if_neg (bFit_n (i := k) (by omega) (by assumption))).symm, ((xupd_ne (by omega)).trans ((xupd_ne (by omega)).trans (hA.2.2.2.1))).trans (if_neg (fun h => (bFit_n (i := k) (by omega) (by assumption)) h.1)).symm, (xupd_ne (by omega)).trans ((xupd_ne (by omega)).trans (hA.2.2.2.2))⟩, fun b j h => (xupd_ne (by omega)).trans ((xupd_ne (by omega)).trans (rfl))⟩
        exact lp16 0 (by omega)  (by intro i h; omega)
