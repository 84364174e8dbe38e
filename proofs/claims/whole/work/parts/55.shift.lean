/-! SHIFT, JUDGE -/
def tSh (m : xD) (s e lo hi : Nat) : xD := fun a k => if a = 318 ∧ e + lo ≤ k ∧ k < e + hi then m 318 (s + (k - e)) else m a k
theorem tSh_0 {m : xD} {s e lo hi : Nat} (h : hi ≤ lo) : tSh m s e lo hi = m := by
  funext a k
  exact if_neg (by omega)
theorem tSh_in {m : xD} {s e lo hi k : Nat} (h : e + lo ≤ k ∧ k < e + hi) : tSh m s e lo hi 318 k = m 318 (s + (k - e)) := if_pos ⟨rfl, h⟩
theorem tSh_ne {m : xD} {s e lo hi a k : Nat} (h : ¬ (a = 318 ∧ e + lo ≤ k ∧ k < e + hi)) : tSh m s e lo hi a k = m a k := if_neg h
theorem Mo.shf {t m : xD} {s e k p q : Nat} (h : Mo t (tSh m s e 0 k)) (hp : p = e + k) (hq : q = s + k) : Mo (xupd t 318 p (m 318 q)) (tSh m s e 0 (k + 1)) := fun a j ha => by
  subst hp hq
  by_cases c : a = 318 ∧ j = e + k
  · rw [c.1, c.2, tSh_in (by omega), xupd_eq]
    exact congrArg (m 318) (by omega)
  · refine (xupd_ne c).trans ((h a j ha).trans ?_)
    by_cases c2 : a = 318 ∧ e + 0 ≤ j ∧ j < e + k
    · rw [c2.1, tSh_in c2.2, tSh_in (by omega)]
    · rw [tSh_ne c2, tSh_ne (by omega)]
theorem Mo.shb {t m : xD} {s e a0 b hi p q : Nat} (h : Mo t (tSh m s e a0 hi)) (hb : b + 1 = a0) (hh : b < hi) (hp : p = e + b) (hq : q = s + b) : Mo (xupd t 318 p (m 318 q)) (tSh m s e b hi) := fun a j ha => by
  subst hp hq hb
  by_cases c : a = 318 ∧ j = e + b
  · rw [c.1, c.2, tSh_in (by omega), xupd_eq]
    exact congrArg (m 318) (by omega)
  · refine (xupd_ne c).trans ((h a j ha).trans ?_)
    by_cases c2 : a = 318 ∧ e + (b + 1) ≤ j ∧ j < e + hi
    · rw [c2.1, tSh_in c2.2, tSh_in (by omega)]
    · rw [tSh_ne c2, tSh_ne (by omega)]
def y_shift (m : xD) (x i z j n : Int) : Option xV × xD := if (0 ≤ x ∧ x ≤ 5) ∧ (0 ≤ z ∧ z ≤ 5) then (if m 316 x.toNat < 0 ∨ m 316 z.toNat < 0 then (some (0, -11), m) else if ¬ m 316 x.toNat = m 316 z.toNat then (some (0, -12), m) else if 0 ≤ n ∧ 0 ≤ i ∧ 0 ≤ j ∧ i + n ≤ m 317 x.toNat ∧ j + n ≤ m 317 z.toNat then (some (0, n), tSh m (60 * x.toNat + i.toNat) (60 * z.toNat + j.toNat) 0 n.toNat) else (some (0, -13), m)) else (some (0, -1), m)
theorem n_shift {d : Nat} {g : xG} {t m : xD} {x i z j n : Int} (L : xLay g) (hM : Mo t m) (hI : Inv m) (hT : MT m) (hi : xr32 i) (hj : xr32 j) (hn : xr32 n) : xCall (d + 2) 198 [(2, ((292 : Nat) : Int)), (0, x), (0, i), (0, z), (0, j), (0, n)] g t (yQ g t (y_shift m x i z j n)) := by
  show xOk (d + 2) 198 0 [(2, ((292 : Nat) : Int)), (0, x), (0, i), (0, z), (0, j), (0, n), (3, 0)] [] g t _
  have iNn_ := iNn hI
  have xi_ : -2147483648 ≤ i ∧ i < 2147483648 := hi
  have xj_ : -2147483648 ≤ j ∧ j < 2147483648 := hj
  have xn_ : -2147483648 ≤ n ∧ n < 2147483648 := hn
  refine xk_load rfl (p := 1) rfl rfl ?_
  refine xk_callp rfl (p := 4) rfl (by decide) rfl (Nat.le_of_ble_eq_true rfl) (Nat.le_of_ble_eq_true rfl) (rfl) (as := [(0, x)]) (r := []) rfl (v := (0, (if 0 ≤ x ∧ x ≤ 5 then (1 : Int) else 0))) (n_isTape) ?_
  refine xk_if rfl (p := 7) rfl (fun c4_1 => ?_) (fun c4_1 => ?_)
  · replace c4_1 : ¬ (0 ≤ x ∧ x ≤ 5) := xb_e0 c4_1
    refine xk_push rfl (p := 15) rfl ?_
    refine xk_ret rfl (rfl) ?_
    exact yRet (show y_shift m x i z j n = (some (0, (-1)), m) from by unfold y_shift; (repeat' split) <;> first | (exfalso; omega) | rfl) hM Md.rf
  · replace c4_1 : 0 ≤ x ∧ x ≤ 5 := xb_n0 c4_1
    refine xk_load rfl (p := 8) rfl rfl ?_
    refine xk_callp rfl (p := 11) rfl (by decide) rfl (Nat.le_of_ble_eq_true rfl) (Nat.le_of_ble_eq_true rfl) (rfl) (as := [(0, z)]) (r := []) rfl (v := (0, (if 0 ≤ z ∧ z ≤ 5 then (1 : Int) else 0))) (n_isTape) ?_
    refine xk_if rfl (p := 14) rfl (fun c11_2 => ?_) (fun c11_2 => ?_)
    · replace c11_2 : 0 ≤ z ∧ z ≤ 5 := xb_n0 c11_2
      refine xk_load rfl (p := 17) rfl rfl ?_
      refine xk_getf rfl (p := 20) rfl (xob (ly_m L) (by decide)) (v := (2, ((316 : Nat) : Int))) (xsl2 rfl (ly_mp39 L)) ?_
      refine xk_load rfl (p := 21) rfl rfl ?_
      refine xk_aldi rfl (p := 22) rfl (show 0 ≤ x by omega) (v := (0, m 316 (x.toNat))) ((xal0 (ly_ms39 L) (show x.toNat < 6 by omega)).trans (congrArg (fun z => some (0, z)) (hM 316 (x.toNat) (by decide)))) ?_
      have hT_ := hT (x.toNat) (by omega)
      refine xk_if rfl (p := 25) rfl (fun c22_3 => ?_) (fun c22_3 => ?_)
      · replace c22_3 : m 316 (x.toNat) < 0 := c22_3
        refine xk_push rfl (p := 36) rfl ?_
        refine xk_ret rfl (rfl) ?_
        exact yRet (show y_shift m x i z j n = (some (0, (-11)), m) from by unfold y_shift; (repeat' split) <;> first | (exfalso; omega) | rfl) hM Md.rf
      · replace c22_3 : ¬ (m 316 (x.toNat) < 0) := c22_3
        refine xk_load rfl (p := 26) rfl rfl ?_
        refine xk_getf rfl (p := 29) rfl (xob (ly_m L) (by decide)) (v := (2, ((316 : Nat) : Int))) (xsl2 rfl (ly_mp39 L)) ?_
        refine xk_load rfl (p := 30) rfl rfl ?_
        refine xk_aldi rfl (p := 31) rfl (show 0 ≤ z by omega) (v := (0, m 316 (z.toNat))) ((xal0 (ly_ms39 L) (show z.toNat < 6 by omega)).trans (congrArg (fun z => some (0, z)) (hM 316 (z.toNat) (by decide)))) ?_
        have hT_ := hT (z.toNat) (by omega)
        refine xk_if rfl (p := 34) rfl (fun c31_4 => ?_) (fun c31_4 => ?_)
        · replace c31_4 : 0 ≤ m 316 (z.toNat) := c31_4
          refine xk_load rfl (p := 38) rfl rfl ?_
          refine xk_getf rfl (p := 41) rfl (xob (ly_m L) (by decide)) (v := (2, ((316 : Nat) : Int))) (xsl2 rfl (ly_mp39 L)) ?_
          refine xk_load rfl (p := 42) rfl rfl ?_
          refine xk_aldi rfl (p := 43) rfl (show 0 ≤ x by omega) (v := (0, m 316 (x.toNat))) ((xal0 (ly_ms39 L) (show x.toNat < 6 by omega)).trans (congrArg (fun z => some (0, z)) (hM 316 (x.toNat) (by decide)))) ?_
          have hT_ := hT (x.toNat) (by omega)
          refine xk_load rfl (p := 44) rfl rfl ?_
          refine xk_getf rfl (p := 47) rfl (xob (ly_m L) (by decide)) (v := (2, ((316 : Nat) : Int))) (xsl2 rfl (ly_mp39 L)) ?_
          refine xk_load rfl (p := 48) rfl rfl ?_
          refine xk_aldi rfl (p := 49) rfl (show 0 ≤ z by omega) (v := (0, m 316 (z.toNat))) ((xal0 (ly_ms39 L) (show z.toNat < 6 by omega)).trans (congrArg (fun z => some (0, z)) (hM 316 (z.toNat) (by decide)))) ?_
          have hT_ := hT (z.toNat) (by omega)
          refine xk_icmp rfl (p := 52) rfl (fun c49_5 => ?_) (fun c49_5 => ?_)
          · replace c49_5 : m 316 (x.toNat) = m 316 (z.toNat) := c49_5
            refine xk_load rfl (p := 57) rfl rfl ?_
            refine xk_if rfl (p := 60) rfl (fun c57_6 => ?_) (fun c57_6 => ?_)
            · replace c57_6 : n < 0 := c57_6
              refine xk_push rfl (p := 106) rfl ?_
              refine xk_ret rfl (rfl) ?_
              exact yRet (show y_shift m x i z j n = (some (0, (-13)), m) from by unfold y_shift; (repeat' split) <;> first | (exfalso; omega) | rfl) hM Md.rf
            · replace c57_6 : ¬ (n < 0) := c57_6
              refine xk_load rfl (p := 61) rfl rfl ?_
              refine xk_if rfl (p := 64) rfl (fun c61_7 => ?_) (fun c61_7 => ?_)
              · replace c61_7 : i < 0 := c61_7
                refine xk_push rfl (p := 106) rfl ?_
                refine xk_ret rfl (rfl) ?_
                exact yRet (show y_shift m x i z j n = (some (0, (-13)), m) from by unfold y_shift; (repeat' split) <;> first | (exfalso; omega) | rfl) hM Md.rf
              · replace c61_7 : ¬ (i < 0) := c61_7
                refine xk_load rfl (p := 66) rfl rfl ?_
                refine xk_if rfl (p := 69) rfl (fun c66_8 => ?_) (fun c66_8 => ?_)
                · replace c66_8 : j < 0 := c66_8
                  refine xk_push rfl (p := 106) rfl ?_
                  refine xk_ret rfl (rfl) ?_
                  exact yRet (show y_shift m x i z j n = (some (0, (-13)), m) from by unfold y_shift; (repeat' split) <;> first | (exfalso; omega) | rfl) hM Md.rf
                · replace c66_8 : ¬ (j < 0) := c66_8
                  refine xk_load rfl (p := 70) rfl rfl ?_
                  refine xk_un rfl (p := 71) rfl (w := (1, i)) (rfl) ?_
                  refine xk_load rfl (p := 73) rfl rfl ?_
                  refine xk_un rfl (p := 74) rfl (w := (1, n)) (rfl) ?_
                  refine xk_lbin rfl (p := 75) rfl rfl (w := (1, (i + n))) (congrArg (fun z => some ((1, z) : xV)) (xladd_r (by omega) (by omega))) ?_
                  refine xk_load rfl (p := 76) rfl rfl ?_
                  refine xk_getf rfl (p := 79) rfl (xob (ly_m L) (by decide)) (v := (2, ((317 : Nat) : Int))) (xsl2 rfl (ly_mp40 L)) ?_
                  refine xk_load rfl (p := 80) rfl rfl ?_
                  refine xk_aldi rfl (p := 81) rfl (show 0 ≤ x by omega) (v := (0, m 317 (x.toNat))) ((xal0 (ly_ms40 L) (show x.toNat < 6 by omega)).trans (congrArg (fun z => some (0, z)) (hM 317 (x.toNat) (by decide)))) ?_
                  have hT_ := hT (x.toNat) (by omega)
                  refine xk_un rfl (p := 82) rfl (w := (1, m 317 (x.toNat))) (rfl) ?_
                  refine xk_lbin rfl (p := 83) rfl rfl (w := (0, xlcmp (i + n) (m 317 (x.toNat)))) (rfl) ?_
                  have xl82_ := @xlcmp_c (i + n) (m 317 (x.toNat))
                  refine xk_if rfl (p := 86) rfl (fun c83_9 => ?_) (fun c83_9 => ?_)
                  · replace c83_9 : 0 < xlcmp (i + n) (m 317 (x.toNat)) := c83_9
                    refine xk_push rfl (p := 106) rfl ?_
                    refine xk_ret rfl (rfl) ?_
                    exact yRet (show y_shift m x i z j n = (some (0, (-13)), m) from by unfold y_shift; (repeat' split) <;> first | (exfalso; omega) | rfl) hM Md.rf
                  · replace c83_9 : ¬ (0 < xlcmp (i + n) (m 317 (x.toNat))) := c83_9
                    refine xk_load rfl (p := 88) rfl rfl ?_
                    refine xk_un rfl (p := 89) rfl (w := (1, j)) (rfl) ?_
                    refine xk_load rfl (p := 91) rfl rfl ?_
                    refine xk_un rfl (p := 92) rfl (w := (1, n)) (rfl) ?_
                    refine xk_lbin rfl (p := 93) rfl rfl (w := (1, (j + n))) (congrArg (fun z => some ((1, z) : xV)) (xladd_r (by omega) (by omega))) ?_
                    refine xk_load rfl (p := 94) rfl rfl ?_
                    refine xk_getf rfl (p := 97) rfl (xob (ly_m L) (by decide)) (v := (2, ((317 : Nat) : Int))) (xsl2 rfl (ly_mp40 L)) ?_
                    refine xk_load rfl (p := 98) rfl rfl ?_
                    refine xk_aldi rfl (p := 99) rfl (show 0 ≤ z by omega) (v := (0, m 317 (z.toNat))) ((xal0 (ly_ms40 L) (show z.toNat < 6 by omega)).trans (congrArg (fun z => some (0, z)) (hM 317 (z.toNat) (by decide)))) ?_
                    have hT_ := hT (z.toNat) (by omega)
                    refine xk_un rfl (p := 100) rfl (w := (1, m 317 (z.toNat))) (rfl) ?_
                    refine xk_lbin rfl (p := 101) rfl rfl (w := (0, xlcmp (j + n) (m 317 (z.toNat)))) (rfl) ?_
                    have xl100_ := @xlcmp_c (j + n) (m 317 (z.toNat))
                    refine xk_if rfl (p := 104) rfl (fun c101_10 => ?_) (fun c101_10 => ?_)
                    · replace c101_10 : xlcmp (j + n) (m 317 (z.toNat)) ≤ 0 := c101_10
                      refine xk_load rfl (p := 108) rfl rfl ?_
                      refine xk_load rfl (p := 109) rfl rfl ?_
                      refine xk_icmp rfl (p := 112) rfl (fun c109_11 => ?_) (fun c109_11 => ?_)
                      · replace c109_11 : ¬ (x = z) := c109_11
                        refine xk_push rfl (p := 168) rfl ?_
                        refine xk_store rfl (p := 170) rfl (by decide) (Nat.le_of_ble_eq_true rfl) (ls' := [(2, ((292 : Nat) : Int)), (0, x), (0, i), (0, z), (0, j), (0, n), (0, 0)]) rfl ?_
                        have lp12 : ∀ k : Nat, k ≤ n.toNat → ∀ (u1 : xD), (Mo u1 (tSh m (60 * x.toNat + i.toNat) (60 * z.toNat + j.toNat) 0 k)) → (Md t u1) → xOk (d + 2) 198 170 [(2, ((292 : Nat) : Int)), (0, x), (0, i), (0, z), (0, j), (0, n), (0, ((k : Nat) : Int))] [] g u1 (yQ g t (y_shift m x i z j n)) := by
                          refine xk_up (n.toNat) (fun k hkk ih12  u1 h1_1 h1_2 => ?_)
                          refine xk_load rfl (p := 172) rfl rfl ?_
                          refine xk_load rfl (p := 174) rfl rfl ?_
                          refine xk_icmp rfl (p := 177) rfl (fun c174_13 => ?_) (fun c174_13 => ?_)
                          · replace c174_13 : n ≤ ((k : Nat) : Int) := c174_13
                            refine xk_load rfl (p := 214) rfl rfl ?_
                            refine xk_ret rfl (rfl) ?_
                            (first | rw [show k = n.toNat by omega] at h1_1 | rw [show (v + 1).toNat = 0 by omega] at h1_1)
                            exact yRet (show y_shift m x i z j n = (some (0, n), tSh m (60 * x.toNat + i.toNat) (60 * z.toNat + j.toNat) 0 n.toNat) from by unfold y_shift; (repeat' split) <;> first | (exfalso; omega) | rfl) h1_1 h1_2
                          · replace c174_13 : ¬ (n ≤ ((k : Nat) : Int)) := c174_13
                            refine xk_load rfl (p := 178) rfl rfl ?_
                            refine xk_getf rfl (p := 181) rfl (xob (ly_m L) (by decide)) (v := (2, ((318 : Nat) : Int))) (xsl2 rfl (ly_mp41 L)) ?_
                            refine xk_push rfl (p := 183) rfl ?_
                            refine xk_load rfl (p := 184) rfl rfl ?_
                            refine xk_bin rfl (p := 185) rfl (z := (60 * z)) (congrArg some (xmul_r (by omega) (by omega))) ?_
                            refine xk_load rfl (p := 187) rfl rfl ?_
                            refine xk_bin rfl (p := 188) rfl (z := ((60 * z) + j)) (congrArg some (xadd_r (by omega) (by omega))) ?_
                            refine xk_load rfl (p := 190) rfl rfl ?_
                            refine xk_bin rfl (p := 191) rfl (z := (((60 * z) + j) + ((k : Nat) : Int))) (congrArg some (xadd_r (by omega) (by omega))) ?_
                            refine xk_load rfl (p := 192) rfl rfl ?_
                            refine xk_getf rfl (p := 195) rfl (xob (ly_m L) (by decide)) (v := (2, ((318 : Nat) : Int))) (xsl2 rfl (ly_mp41 L)) ?_
                            refine xk_push rfl (p := 197) rfl ?_
                            refine xk_load rfl (p := 198) rfl rfl ?_
                            refine xk_bin rfl (p := 199) rfl (z := (60 * x)) (congrArg some (xmul_r (by omega) (by omega))) ?_
                            refine xk_load rfl (p := 200) rfl rfl ?_
                            refine xk_bin rfl (p := 201) rfl (z := ((60 * x) + i)) (congrArg some (xadd_r (by omega) (by omega))) ?_
                            refine xk_load rfl (p := 203) rfl rfl ?_
                            refine xk_bin rfl (p := 204) rfl (z := (((60 * x) + i) + ((k : Nat) : Int))) (congrArg some (xadd_r (by omega) (by omega))) ?_
                            refine xk_aldi rfl (p := 205) rfl (show 0 ≤ (((60 * x) + i) + ((k : Nat) : Int)) by omega) (v := (1, m 318 ((((60 * x) + i) + ((k : Nat) : Int)).toNat))) ((xal1 (ly_ms41 L) (show (((60 * x) + i) + ((k : Nat) : Int)).toNat < 360 by omega)).trans (congrArg (fun z => some (1, z)) ((h1_1 318 ((((60 * x) + i) + ((k : Nat) : Int)).toNat) (by decide)).trans (tSh_ne (by omega))))) ?_
                            refine xk_asti rfl (p := 206) rfl (show 0 ≤ (((60 * z) + j) + ((k : Nat) : Int)) by omega) (by decide) rfl (xsk (ly_ms41 L)) (xsn (ly_ms41 L) (show (((60 * z) + j) + ((k : Nat) : Int)).toNat < 360 by omega)) (by omega) ?_
                            refine xk_inc1 rfl (p := 209) rfl (n := k) rfl (by omega) (ls' := [(2, ((292 : Nat) : Int)), (0, x), (0, i), (0, z), (0, j), (0, n), (0, ((k + 1 : Nat) : Int))]) rfl ?_
                            refine xk_goto rfl ?_
                            exact ih12 (by omega)  (xupd u1 318 ((((60 * z) + j) + ((k : Nat) : Int)).toNat) (m 318 ((((60 * x) + i) + ((k : Nat) : Int)).toNat))) (by exact h1_1.shf (by omega) (by omega)) (by exact h1_2.up (by decide))
                        exact lp12 0 (by omega)  t (by rw [tSh_0 (by omega)]; exact hM) (by exact Md.rf)
                      · replace c109_11 : x = z := Decidable.not_not.mp c109_11
                        refine xk_load rfl (p := 113) rfl rfl ?_
                        refine xk_load rfl (p := 115) rfl rfl ?_
                        refine xk_icmp rfl (p := 118) rfl (fun c115_14 => ?_) (fun c115_14 => ?_)
                        · replace c115_14 : j ≤ i := c115_14
                          refine xk_push rfl (p := 168) rfl ?_
                          refine xk_store rfl (p := 170) rfl (by decide) (Nat.le_of_ble_eq_true rfl) (ls' := [(2, ((292 : Nat) : Int)), (0, x), (0, i), (0, z), (0, j), (0, n), (0, 0)]) rfl ?_
                          have lp15 : ∀ k : Nat, k ≤ n.toNat → ∀ (u1 : xD), (Mo u1 (tSh m (60 * x.toNat + i.toNat) (60 * z.toNat + j.toNat) 0 k)) → (Md t u1) → xOk (d + 2) 198 170 [(2, ((292 : Nat) : Int)), (0, x), (0, i), (0, z), (0, j), (0, n), (0, ((k : Nat) : Int))] [] g u1 (yQ g t (y_shift m x i z j n)) := by
                            refine xk_up (n.toNat) (fun k hkk ih15  u1 h1_1 h1_2 => ?_)
                            refine xk_load rfl (p := 172) rfl rfl ?_
                            refine xk_load rfl (p := 174) rfl rfl ?_
                            refine xk_icmp rfl (p := 177) rfl (fun c174_16 => ?_) (fun c174_16 => ?_)
                            · replace c174_16 : n ≤ ((k : Nat) : Int) := c174_16
                              refine xk_load rfl (p := 214) rfl rfl ?_
                              refine xk_ret rfl (rfl) ?_
                              (first | rw [show k = n.toNat by omega] at h1_1 | rw [show (v + 1).toNat = 0 by omega] at h1_1)
                              exact yRet (show y_shift m x i z j n = (some (0, n), tSh m (60 * x.toNat + i.toNat) (60 * z.toNat + j.toNat) 0 n.toNat) from by unfold y_shift; (repeat' split) <;> first | (exfalso; omega) | rfl) h1_1 h1_2
                            · replace c174_16 : ¬ (n ≤ ((k : Nat) : Int)) := c174_16
                              refine xk_load rfl (p := 178) rfl rfl ?_
                              refine xk_getf rfl (p := 181) rfl (xob (ly_m L) (by decide)) (v := (2, ((318 : Nat) : Int))) (xsl2 rfl (ly_mp41 L)) ?_
                              refine xk_push rfl (p := 183) rfl ?_
                              refine xk_load rfl (p := 184) rfl rfl ?_
                              refine xk_bin rfl (p := 185) rfl (z := (60 * z)) (congrArg some (xmul_r (by omega) (by omega))) ?_
                              refine xk_load rfl (p := 187) rfl rfl ?_
                              refine xk_bin rfl (p := 188) rfl (z := ((60 * z) + j)) (congrArg some (xadd_r (by omega) (by omega))) ?_
                              refine xk_load rfl (p := 190) rfl rfl ?_
                              refine xk_bin rfl (p := 191) rfl (z := (((60 * z) + j) + ((k : Nat) : Int))) (congrArg some (xadd_r (by omega) (by omega))) ?_
                              refine xk_load rfl (p := 192) rfl rfl ?_
                              refine xk_getf rfl (p := 195) rfl (xob (ly_m L) (by decide)) (v := (2, ((318 : Nat) : Int))) (xsl2 rfl (ly_mp41 L)) ?_
                              refine xk_push rfl (p := 197) rfl ?_
                              refine xk_load rfl (p := 198) rfl rfl ?_
                              refine xk_bin rfl (p := 199) rfl (z := (60 * x)) (congrArg some (xmul_r (by omega) (by omega))) ?_
                              refine xk_load rfl (p := 200) rfl rfl ?_
                              refine xk_bin rfl (p := 201) rfl (z := ((60 * x) + i)) (congrArg some (xadd_r (by omega) (by omega))) ?_
                              refine xk_load rfl (p := 203) rfl rfl ?_
                              refine xk_bin rfl (p := 204) rfl (z := (((60 * x) + i) + ((k : Nat) : Int))) (congrArg some (xadd_r (by omega) (by omega))) ?_
                              refine xk_aldi rfl (p := 205) rfl (show 0 ≤ (((60 * x) + i) + ((k : Nat) : Int)) by omega) (v := (1, m 318 ((((60 * x) + i) + ((k : Nat) : Int)).toNat))) ((xal1 (ly_ms41 L) (show (((60 * x) + i) + ((k : Nat) : Int)).toNat < 360 by omega)).trans (congrArg (fun z => some (1, z)) ((h1_1 318 ((((60 * x) + i) + ((k : Nat) : Int)).toNat) (by decide)).trans (tSh_ne (by omega))))) ?_
                              refine xk_asti rfl (p := 206) rfl (show 0 ≤ (((60 * z) + j) + ((k : Nat) : Int)) by omega) (by decide) rfl (xsk (ly_ms41 L)) (xsn (ly_ms41 L) (show (((60 * z) + j) + ((k : Nat) : Int)).toNat < 360 by omega)) (by omega) ?_
                              refine xk_inc1 rfl (p := 209) rfl (n := k) rfl (by omega) (ls' := [(2, ((292 : Nat) : Int)), (0, x), (0, i), (0, z), (0, j), (0, n), (0, ((k + 1 : Nat) : Int))]) rfl ?_
                              refine xk_goto rfl ?_
                              exact ih15 (by omega)  (xupd u1 318 ((((60 * z) + j) + ((k : Nat) : Int)).toNat) (m 318 ((((60 * x) + i) + ((k : Nat) : Int)).toNat))) (by exact h1_1.shf (by omega) (by omega)) (by exact h1_2.up (by decide))
                          exact lp15 0 (by omega)  t (by rw [tSh_0 (by omega)]; exact hM) (by exact Md.rf)
                        · replace c115_14 : ¬ (j ≤ i) := c115_14
                          refine xk_load rfl (p := 120) rfl rfl ?_
                          refine xk_push rfl (p := 121) rfl ?_
                          refine xk_bin rfl (p := 122) rfl (z := (n - 1)) (congrArg some (xsub_r (by omega) (by omega))) ?_
                          refine xk_store rfl (p := 124) rfl (by decide) (Nat.le_of_ble_eq_true rfl) (ls' := [(2, ((292 : Nat) : Int)), (0, x), (0, i), (0, z), (0, j), (0, n), (0, (n - 1))]) rfl ?_
                          have lp17 : ∀ e : Nat, e ≤ n.toNat → ∀ (v : Int) (u1 : xD), (Mo u1 (tSh m (60 * x.toNat + i.toNat) (60 * z.toNat + j.toNat) (v + 1).toNat n.toNat)) → (Md t u1) → (v = n - 1 - e) → xOk (d + 2) 198 124 [(2, ((292 : Nat) : Int)), (0, x), (0, i), (0, z), (0, j), (0, n), (0, v)] [] g u1 (yQ g t (y_shift m x i z j n)) := by
                            refine xk_up (n.toNat) (fun e hke ih17 v u1 h1_1 h1_2 h1_3 => ?_)
                            refine xk_load rfl (p := 126) rfl rfl ?_
                            refine xk_if rfl (p := 129) rfl (fun c126_18 => ?_) (fun c126_18 => ?_)
                            · replace c126_18 : v < 0 := c126_18
                              refine xk_goto rfl ?_
                              refine xk_load rfl (p := 214) rfl rfl ?_
                              refine xk_ret rfl (rfl) ?_
                              (first | rw [show k = n.toNat by omega] at h1_1 | rw [show (v + 1).toNat = 0 by omega] at h1_1)
                              exact yRet (show y_shift m x i z j n = (some (0, n), tSh m (60 * x.toNat + i.toNat) (60 * z.toNat + j.toNat) 0 n.toNat) from by unfold y_shift; (repeat' split) <;> first | (exfalso; omega) | rfl) h1_1 h1_2
                            · replace c126_18 : ¬ (v < 0) := c126_18
                              refine xk_load rfl (p := 130) rfl rfl ?_
                              refine xk_getf rfl (p := 133) rfl (xob (ly_m L) (by decide)) (v := (2, ((318 : Nat) : Int))) (xsl2 rfl (ly_mp41 L)) ?_
                              refine xk_push rfl (p := 135) rfl ?_
                              refine xk_load rfl (p := 136) rfl rfl ?_
                              refine xk_bin rfl (p := 137) rfl (z := (60 * z)) (congrArg some (xmul_r (by omega) (by omega))) ?_
                              refine xk_load rfl (p := 139) rfl rfl ?_
                              refine xk_bin rfl (p := 140) rfl (z := ((60 * z) + j)) (congrArg some (xadd_r (by omega) (by omega))) ?_
                              refine xk_load rfl (p := 142) rfl rfl ?_
                              refine xk_bin rfl (p := 143) rfl (z := (((60 * z) + j) + v)) (congrArg some (xadd_r (by omega) (by omega))) ?_
                              refine xk_load rfl (p := 144) rfl rfl ?_
                              refine xk_getf rfl (p := 147) rfl (xob (ly_m L) (by decide)) (v := (2, ((318 : Nat) : Int))) (xsl2 rfl (ly_mp41 L)) ?_
                              refine xk_push rfl (p := 149) rfl ?_
                              refine xk_load rfl (p := 150) rfl rfl ?_
                              refine xk_bin rfl (p := 151) rfl (z := (60 * x)) (congrArg some (xmul_r (by omega) (by omega))) ?_
                              refine xk_load rfl (p := 152) rfl rfl ?_
                              refine xk_bin rfl (p := 153) rfl (z := ((60 * x) + i)) (congrArg some (xadd_r (by omega) (by omega))) ?_
                              refine xk_load rfl (p := 155) rfl rfl ?_
                              refine xk_bin rfl (p := 156) rfl (z := (((60 * x) + i) + v)) (congrArg some (xadd_r (by omega) (by omega))) ?_
                              refine xk_aldi rfl (p := 157) rfl (show 0 ≤ (((60 * x) + i) + v) by omega) (v := (1, m 318 ((((60 * x) + i) + v).toNat))) ((xal1 (ly_ms41 L) (show (((60 * x) + i) + v).toNat < 360 by omega)).trans (congrArg (fun z => some (1, z)) ((h1_1 318 ((((60 * x) + i) + v).toNat) (by decide)).trans (tSh_ne (by omega))))) ?_
                              refine xk_asti rfl (p := 158) rfl (show 0 ≤ (((60 * z) + j) + v) by omega) (by decide) rfl (xsk (ly_ms41 L)) (xsn (ly_ms41 L) (show (((60 * z) + j) + v).toNat < 360 by omega)) (by omega) ?_
                              have e19 : xadd (v) (-1) = v - 1 := (xadd_r (by omega) (by omega)).trans (by omega)
                              refine xk_iinc rfl (p := 161) rfl (x := v) rfl (ls' := [(2, ((292 : Nat) : Int)), (0, x), (0, i), (0, z), (0, j), (0, n), (0, (v - 1))]) (by rw [e19]; rfl) ?_
                              clear e19
                              refine xk_goto rfl ?_
                              exact ih17 (by omega) (v - 1) (xupd u1 318 ((((60 * z) + j) + v).toNat) (m 318 ((((60 * x) + i) + v).toNat))) (by exact h1_1.shb (b := (v - 1 + 1).toNat) (by omega) (by omega) (by omega) (by omega)) (by exact h1_2.up (by decide)) (by omega)
                          exact lp17 0 (by omega) (n - 1) t (by rw [tSh_0 (by omega)]; exact hM) (by exact Md.rf) (by omega)
                    · replace c101_10 : ¬ (xlcmp (j + n) (m 317 (z.toNat)) ≤ 0) := c101_10
                      refine xk_push rfl (p := 106) rfl ?_
                      refine xk_ret rfl (rfl) ?_
                      exact yRet (show y_shift m x i z j n = (some (0, (-13)), m) from by unfold y_shift; (repeat' split) <;> first | (exfalso; omega) | rfl) hM Md.rf
          · replace c49_5 : ¬ (m 316 (x.toNat) = m 316 (z.toNat)) := c49_5
            refine xk_push rfl (p := 54) rfl ?_
            refine xk_ret rfl (rfl) ?_
            exact yRet (show y_shift m x i z j n = (some (0, (-12)), m) from by unfold y_shift; (repeat' split) <;> first | (exfalso; omega) | rfl) hM Md.rf
        · replace c31_4 : ¬ (0 ≤ m 316 (z.toNat)) := c31_4
          refine xk_push rfl (p := 36) rfl ?_
          refine xk_ret rfl (rfl) ?_
          exact yRet (show y_shift m x i z j n = (some (0, (-11)), m) from by unfold y_shift; (repeat' split) <;> first | (exfalso; omega) | rfl) hM Md.rf
    · replace c11_2 : ¬ (0 ≤ z ∧ z ≤ 5) := xb_e1 c11_2
      refine xk_push rfl (p := 15) rfl ?_
      refine xk_ret rfl (rfl) ?_
      exact yRet (show y_shift m x i z j n = (some (0, (-1)), m) from by unfold y_shift; (repeat' split) <;> first | (exfalso; omega) | rfl) hM Md.rf

theorem jd_e {m : xD} {x y : Int} {k : Nat} (hk : k < nN m) (h1 : ∀ q, q < k → ¬ ((m 316 x.toNat = -1 ∨ y < 0 ∨ m 317 x.toNat ≤ y + q) ∨ ¬ m 318 (60 * x.toNat + y.toNat + q) = sVal m q)) (h2 : (m 316 x.toNat = -1 ∨ y < 0 ∨ m 317 x.toNat ≤ y + k) ∨ ¬ m 318 (60 * x.toNat + y.toNat + k) = sVal m k) : xfst (fun k => decide ((m 316 x.toNat = -1 ∨ y < 0 ∨ m 317 x.toNat ≤ y + k) ∨ ¬ m 318 (60 * x.toNat + y.toNat + k) = sVal m k)) (nN m) = k := xfst_eq (by omega) (fun i hi => decide_eq_false (h1 i hi)) (fun _ => decide_eq_true h2)
theorem jd_cut {m : xD} {x y : Int} {k : Nat} (hx : 0 ≤ x ∧ x ≤ 5) (hs : m 316 x.toNat = -1 ∨ m 316 x.toNat = 2) (hk : k < nN m) (h1 : ∀ q, q < k → ¬ ((m 316 x.toNat = -1 ∨ y < 0 ∨ m 317 x.toNat ≤ y + q) ∨ ¬ m 318 (60 * x.toNat + y.toNat + q) = sVal m q)) (h2 : m 316 x.toNat = -1 ∨ y < 0 ∨ m 317 x.toNat ≤ y + k) : y_judge m x y = 100 + k := by
  unfold y_judge
  rw [if_pos hx, if_pos hs, jd_e hk h1 (Or.inl h2), if_pos hk, if_pos h2]
theorem jd_dif {m : xD} {x y : Int} {k : Nat} (hx : 0 ≤ x ∧ x ≤ 5) (hs : m 316 x.toNat = -1 ∨ m 316 x.toNat = 2) (hk : k < nN m) (h1 : ∀ q, q < k → ¬ ((m 316 x.toNat = -1 ∨ y < 0 ∨ m 317 x.toNat ≤ y + q) ∨ ¬ m 318 (60 * x.toNat + y.toNat + q) = sVal m q)) (h2 : ¬ (m 316 x.toNat = -1 ∨ y < 0 ∨ m 317 x.toNat ≤ y + k)) (h3 : ¬ m 318 (60 * x.toNat + y.toNat + k) = sVal m k) : y_judge m x y = k := by
  unfold y_judge
  rw [if_pos hx, if_pos hs, jd_e hk h1 (Or.inr h3), if_pos hk, if_neg h2]
theorem jd_end {m : xD} {x y : Int} (hx : 0 ≤ x ∧ x ≤ 5) (hs : m 316 x.toNat = -1 ∨ m 316 x.toNat = 2) (h1 : ∀ q, q < nN m → ¬ ((m 316 x.toNat = -1 ∨ y < 0 ∨ m 317 x.toNat ≤ y + q) ∨ ¬ m 318 (60 * x.toNat + y.toNat + q) = sVal m q)) : y_judge m x y = -5 := by
  have e : xfst (fun k => decide ((m 316 x.toNat = -1 ∨ y < 0 ∨ m 317 x.toNat ≤ y + k) ∨ ¬ m 318 (60 * x.toNat + y.toNat + k) = sVal m k)) (nN m) = nN m := xfst_eq (Nat.le_refl _) (fun i hi => decide_eq_false (h1 i hi)) (fun h => absurd h (by omega))
  unfold y_judge
  rw [if_pos hx, if_pos hs, e, if_neg (by omega)]
theorem n_judge {d : Nat} {g : xG} {t m : xD} {x y : Int} (L : xLay g) (hM : Mo t m) (hI : Inv m) (hT : MT m) (hy : xr32 y) : xCall (d + 3) 186 [(2, ((292 : Nat) : Int)), (0, x), (0, y)] g t (xQ g t (some (0, y_judge m x y))) := by
  show xOk (d + 3) 186 0 [(2, ((292 : Nat) : Int)), (0, x), (0, y), (3, 0)] [] g t _
  have iNn_ := iNn hI
  have xy_ : -2147483648 ≤ y ∧ y < 2147483648 := hy
  refine xk_load rfl (p := 1) rfl rfl ?_
  refine xk_push rfl (p := 2) rfl ?_
  refine xk_push rfl (p := 3) rfl ?_
  refine xk_callp rfl (p := 6) rfl (by decide) rfl (Nat.le_of_ble_eq_true rfl) (Nat.le_of_ble_eq_true rfl) (rfl) (as := [(0, x), (0, 0), (0, 5)]) (r := []) rfl (v := (0, (if 0 ≤ x ∧ x ≤ 5 then (1 : Int) else 0))) (n_within) ?_
  refine xk_if rfl (p := 9) rfl (fun c6_1 => ?_) (fun c6_1 => ?_)
  · replace c6_1 : 0 ≤ x ∧ x ≤ 5 := xb_n0 c6_1
    refine xk_load rfl (p := 12) rfl rfl ?_
    refine xk_getf rfl (p := 15) rfl (xob (ly_m L) (by decide)) (v := (2, ((316 : Nat) : Int))) (xsl2 rfl (ly_mp39 L)) ?_
    refine xk_load rfl (p := 16) rfl rfl ?_
    refine xk_aldi rfl (p := 17) rfl (show 0 ≤ x by omega) (v := (0, m 316 (x.toNat))) ((xal0 (ly_ms39 L) (show x.toNat < 6 by omega)).trans (congrArg (fun z => some (0, z)) (hM 316 (x.toNat) (by decide)))) ?_
    have hT_ := hT (x.toNat) (by omega)
    refine xk_push rfl (p := 18) rfl ?_
    refine xk_icmp rfl (p := 21) rfl (fun c18_2 => ?_) (fun c18_2 => ?_)
    · replace c18_2 : m 316 (x.toNat) = (-1) := c18_2
      refine xk_push rfl (p := 35) rfl ?_
      refine xk_store rfl (p := 36) rfl (by decide) (Nat.le_of_ble_eq_true rfl) (ls' := [(2, ((292 : Nat) : Int)), (0, x), (0, y), (0, 0)]) rfl ?_
      have lp3 : ∀ k : Nat, k ≤ nN m → (∀ q, q < k → ¬ ((m 316 x.toNat = -1 ∨ y < 0 ∨ m 317 x.toNat ≤ y + q) ∨ ¬ m 318 (60 * x.toNat + y.toNat + q) = sVal m q)) → xOk (d + 3) 186 36 [(2, ((292 : Nat) : Int)), (0, x), (0, y), (0, ((k : Nat) : Int))] [] g t (xQ g t (some (0, y_judge m x y))) := by
        refine xk_up (nN m) (fun k hkk ih3  hi1 => ?_)
        refine xk_load rfl (p := 37) rfl rfl ?_
        refine xk_load rfl (p := 38) rfl rfl ?_
        refine xk_getf rfl (p := 41) rfl (xob (ly_m L) (by decide)) (v := (0, ((nN m : Nat) : Int))) (xsl0 rfl ((hM 292 0 (by decide)).trans (iNn hI).1)) ?_
        have iNn_ := iNn hI
        refine xk_icmp rfl (p := 44) rfl (fun c41_4 => ?_) (fun c41_4 => ?_)
        · replace c41_4 : ((nN m : Nat) : Int) ≤ ((k : Nat) : Int) := c41_4
          refine xk_push rfl (p := 112) rfl ?_
          refine xk_rete rfl (rfl) ?_
          exact (show y_judge m x y = (-5) from (jd_end (by omega) (by omega) (by rw [show nN m = k by omega]; exact hi1))).symm
        · replace c41_4 : ¬ (((nN m : Nat) : Int) ≤ ((k : Nat) : Int)) := c41_4
          refine xk_load rfl (p := 45) rfl rfl ?_
          refine xk_getf rfl (p := 48) rfl (xob (ly_m L) (by decide)) (v := (2, ((316 : Nat) : Int))) (xsl2 rfl (ly_mp39 L)) ?_
          refine xk_load rfl (p := 49) rfl rfl ?_
          refine xk_aldi rfl (p := 50) rfl (show 0 ≤ x by omega) (v := (0, m 316 (x.toNat))) ((xal0 (ly_ms39 L) (show x.toNat < 6 by omega)).trans (congrArg (fun z => some (0, z)) (hM 316 (x.toNat) (by decide)))) ?_
          have hT_ := hT (x.toNat) (by omega)
          refine xk_push rfl (p := 51) rfl ?_
          refine xk_icmp rfl (p := 54) rfl (fun c51_5 => ?_) (fun c51_5 => ?_)
          · replace c51_5 : m 316 (x.toNat) = (-1) := c51_5
            refine xk_push rfl (p := 76) rfl ?_
            refine xk_load rfl (p := 77) rfl rfl ?_
            refine xk_bin rfl (p := 78) rfl (z := ((100 + k : Nat) : Int)) (congrArg some (xadd_n (n := 100) (m := k) (by omega))) ?_
            refine xk_rete rfl (rfl) ?_
            exact (show y_judge m x y = ((100 + k : Nat) : Int) from ((jd_cut (k := k) (by omega) (by omega) (by omega) hi1 (by omega)).trans (by omega))).symm
          · replace c51_5 : ¬ (m 316 (x.toNat) = (-1)) := c51_5
            refine xk_load rfl (p := 55) rfl rfl ?_
            refine xk_if rfl (p := 58) rfl (fun c55_6 => ?_) (fun c55_6 => ?_)
            · replace c55_6 : y < 0 := c55_6
              refine xk_push rfl (p := 76) rfl ?_
              refine xk_load rfl (p := 77) rfl rfl ?_
              refine xk_bin rfl (p := 78) rfl (z := ((100 + k : Nat) : Int)) (congrArg some (xadd_n (n := 100) (m := k) (by omega))) ?_
              refine xk_rete rfl (rfl) ?_
              exact (show y_judge m x y = ((100 + k : Nat) : Int) from ((jd_cut (k := k) (by omega) (by omega) (by omega) hi1 (by omega)).trans (by omega))).symm
            · replace c55_6 : ¬ (y < 0) := c55_6
              refine xk_load rfl (p := 59) rfl rfl ?_
              refine xk_un rfl (p := 60) rfl (w := (1, y)) (rfl) ?_
              refine xk_load rfl (p := 61) rfl rfl ?_
              refine xk_un rfl (p := 62) rfl (w := (1, ((k : Nat) : Int))) (rfl) ?_
              refine xk_lbin rfl (p := 63) rfl rfl (w := (1, (y + ((k : Nat) : Int)))) (congrArg (fun z => some ((1, z) : xV)) (xladd_r (by omega) (by omega))) ?_
              refine xk_load rfl (p := 64) rfl rfl ?_
              refine xk_getf rfl (p := 67) rfl (xob (ly_m L) (by decide)) (v := (2, ((317 : Nat) : Int))) (xsl2 rfl (ly_mp40 L)) ?_
              refine xk_load rfl (p := 68) rfl rfl ?_
              refine xk_aldi rfl (p := 69) rfl (show 0 ≤ x by omega) (v := (0, m 317 (x.toNat))) ((xal0 (ly_ms40 L) (show x.toNat < 6 by omega)).trans (congrArg (fun z => some (0, z)) (hM 317 (x.toNat) (by decide)))) ?_
              have hT_ := hT (x.toNat) (by omega)
              refine xk_un rfl (p := 70) rfl (w := (1, m 317 (x.toNat))) (rfl) ?_
              refine xk_lbin rfl (p := 71) rfl rfl (w := (0, xlcmp (y + ((k : Nat) : Int)) (m 317 (x.toNat)))) (rfl) ?_
              have xl70_ := @xlcmp_c (y + ((k : Nat) : Int)) (m 317 (x.toNat))
              refine xk_if rfl (p := 74) rfl (fun c71_7 => ?_) (fun c71_7 => ?_)
              · replace c71_7 : xlcmp (y + ((k : Nat) : Int)) (m 317 (x.toNat)) < 0 := c71_7
                refine xk_load rfl (p := 80) rfl rfl ?_
                refine xk_getf rfl (p := 83) rfl (xob (ly_m L) (by decide)) (v := (2, ((318 : Nat) : Int))) (xsl2 rfl (ly_mp41 L)) ?_
                refine xk_push rfl (p := 85) rfl ?_
                refine xk_load rfl (p := 86) rfl rfl ?_
                refine xk_bin rfl (p := 87) rfl (z := (60 * x)) (congrArg some (xmul_r (by omega) (by omega))) ?_
                refine xk_load rfl (p := 88) rfl rfl ?_
                refine xk_bin rfl (p := 89) rfl (z := ((60 * x) + y)) (congrArg some (xadd_r (by omega) (by omega))) ?_
                refine xk_load rfl (p := 90) rfl rfl ?_
                refine xk_bin rfl (p := 91) rfl (z := (((60 * x) + y) + ((k : Nat) : Int))) (congrArg some (xadd_r (by omega) (by omega))) ?_
                refine xk_aldi rfl (p := 92) rfl (show 0 ≤ (((60 * x) + y) + ((k : Nat) : Int)) by omega) (v := (1, m 318 (60 * x.toNat + y.toNat + k))) ((xal1 (ly_ms41 L) (show (((60 * x) + y) + ((k : Nat) : Int)).toNat < 360 by omega)).trans (congrArg (fun z => some (1, z)) ((hM 318 ((((60 * x) + y) + ((k : Nat) : Int)).toNat) (by decide)).trans (congrArg (m 318) (by omega))))) ?_
                refine xk_load rfl (p := 93) rfl rfl ?_
                refine xk_load rfl (p := 94) rfl rfl ?_
                refine xk_callp rfl (p := 97) rfl (by decide) rfl (Nat.le_of_ble_eq_true rfl) (Nat.le_of_ble_eq_true rfl) (xrv (ly_m L) (by decide)) (as := [(2, ((292 : Nat) : Int)), (0, ((k : Nat) : Int))]) (r := [(1, m 318 (60 * x.toNat + y.toNat + k))]) rfl (v := (0, sVal m k)) (n_value L hM hI (show k < 12 by omega)) ?_
                refine xk_un rfl (p := 98) rfl (w := (1, sVal m k)) (rfl) ?_
                refine xk_lbin rfl (p := 99) rfl rfl (w := (0, xlcmp (m 318 (60 * x.toNat + y.toNat + k)) (sVal m k))) (rfl) ?_
                have xl98_ := @xlcmp_c (m 318 (60 * x.toNat + y.toNat + k)) (sVal m k)
                refine xk_if rfl (p := 102) rfl (fun c99_8 => ?_) (fun c99_8 => ?_)
                · replace c99_8 : xlcmp (m 318 (60 * x.toNat + y.toNat + k)) (sVal m k) = 0 := c99_8
                  refine xk_inc1 rfl (p := 107) rfl (n := k) rfl (by omega) (ls' := [(2, ((292 : Nat) : Int)), (0, x), (0, y), (0, ((k + 1 : Nat) : Int))]) rfl ?_
                  refine xk_goto rfl ?_
                  exact ih3 (by omega)  (by exact xall_up hi1 (by omega))
                · replace c99_8 : ¬ (xlcmp (m 318 (60 * x.toNat + y.toNat + k)) (sVal m k) = 0) := c99_8
                  refine xk_load rfl (p := 103) rfl rfl ?_
                  refine xk_rete rfl (rfl) ?_
                  exact (show y_judge m x y = ((k : Nat) : Int) from (jd_dif (k := k) (by omega) (by omega) (by omega) hi1 (by omega) (by omega))).symm
              · replace c71_7 : ¬ (xlcmp (y + ((k : Nat) : Int)) (m 317 (x.toNat)) < 0) := c71_7
                refine xk_push rfl (p := 76) rfl ?_
                refine xk_load rfl (p := 77) rfl rfl ?_
                refine xk_bin rfl (p := 78) rfl (z := ((100 + k : Nat) : Int)) (congrArg some (xadd_n (n := 100) (m := k) (by omega))) ?_
                refine xk_rete rfl (rfl) ?_
                exact (show y_judge m x y = ((100 + k : Nat) : Int) from ((jd_cut (k := k) (by omega) (by omega) (by omega) hi1 (by omega)).trans (by omega))).symm
      exact lp3 0 (by omega)  (by intro q hq; omega)
    · replace c18_2 : ¬ (m 316 (x.toNat) = (-1)) := c18_2
      refine xk_load rfl (p := 22) rfl rfl ?_
      refine xk_getf rfl (p := 25) rfl (xob (ly_m L) (by decide)) (v := (2, ((316 : Nat) : Int))) (xsl2 rfl (ly_mp39 L)) ?_
      refine xk_load rfl (p := 26) rfl rfl ?_
      refine xk_aldi rfl (p := 27) rfl (show 0 ≤ x by omega) (v := (0, m 316 (x.toNat))) ((xal0 (ly_ms39 L) (show x.toNat < 6 by omega)).trans (congrArg (fun z => some (0, z)) (hM 316 (x.toNat) (by decide)))) ?_
      have hT_ := hT (x.toNat) (by omega)
      refine xk_push rfl (p := 28) rfl ?_
      refine xk_icmp rfl (p := 31) rfl (fun c28_9 => ?_) (fun c28_9 => ?_)
      · replace c28_9 : m 316 (x.toNat) = 2 := c28_9
        refine xk_push rfl (p := 35) rfl ?_
        refine xk_store rfl (p := 36) rfl (by decide) (Nat.le_of_ble_eq_true rfl) (ls' := [(2, ((292 : Nat) : Int)), (0, x), (0, y), (0, 0)]) rfl ?_
        have lp10 : ∀ k : Nat, k ≤ nN m → (∀ q, q < k → ¬ ((m 316 x.toNat = -1 ∨ y < 0 ∨ m 317 x.toNat ≤ y + q) ∨ ¬ m 318 (60 * x.toNat + y.toNat + q) = sVal m q)) → xOk (d + 3) 186 36 [(2, ((292 : Nat) : Int)), (0, x), (0, y), (0, ((k : Nat) : Int))] [] g t (xQ g t (some (0, y_judge m x y))) := by
          refine xk_up (nN m) (fun k hkk ih10  hi1 => ?_)
          refine xk_load rfl (p := 37) rfl rfl ?_
          refine xk_load rfl (p := 38) rfl rfl ?_
          refine xk_getf rfl (p := 41) rfl (xob (ly_m L) (by decide)) (v := (0, ((nN m : Nat) : Int))) (xsl0 rfl ((hM 292 0 (by decide)).trans (iNn hI).1)) ?_
          have iNn_ := iNn hI
          refine xk_icmp rfl (p := 44) rfl (fun c41_11 => ?_) (fun c41_11 => ?_)
          · replace c41_11 : ((nN m : Nat) : Int) ≤ ((k : Nat) : Int) := c41_11
            refine xk_push rfl (p := 112) rfl ?_
            refine xk_rete rfl (rfl) ?_
            exact (show y_judge m x y = (-5) from (jd_end (by omega) (by omega) (by rw [show nN m = k by omega]; exact hi1))).symm
          · replace c41_11 : ¬ (((nN m : Nat) : Int) ≤ ((k : Nat) : Int)) := c41_11
            refine xk_load rfl (p := 45) rfl rfl ?_
            refine xk_getf rfl (p := 48) rfl (xob (ly_m L) (by decide)) (v := (2, ((316 : Nat) : Int))) (xsl2 rfl (ly_mp39 L)) ?_
            refine xk_load rfl (p := 49) rfl rfl ?_
            refine xk_aldi rfl (p := 50) rfl (show 0 ≤ x by omega) (v := (0, m 316 (x.toNat))) ((xal0 (ly_ms39 L) (show x.toNat < 6 by omega)).trans (congrArg (fun z => some (0, z)) (hM 316 (x.toNat) (by decide)))) ?_
            have hT_ := hT (x.toNat) (by omega)
            refine xk_push rfl (p := 51) rfl ?_
            refine xk_icmp rfl (p := 54) rfl (fun c51_12 => ?_) (fun c51_12 => ?_)
            · replace c51_12 : m 316 (x.toNat) = (-1) := c51_12
              refine xk_push rfl (p := 76) rfl ?_
              refine xk_load rfl (p := 77) rfl rfl ?_
              refine xk_bin rfl (p := 78) rfl (z := ((100 + k : Nat) : Int)) (congrArg some (xadd_n (n := 100) (m := k) (by omega))) ?_
              refine xk_rete rfl (rfl) ?_
              exact (show y_judge m x y = ((100 + k : Nat) : Int) from ((jd_cut (k := k) (by omega) (by omega) (by omega) hi1 (by omega)).trans (by omega))).symm
            · replace c51_12 : ¬ (m 316 (x.toNat) = (-1)) := c51_12
              refine xk_load rfl (p := 55) rfl rfl ?_
              refine xk_if rfl (p := 58) rfl (fun c55_13 => ?_) (fun c55_13 => ?_)
              · replace c55_13 : y < 0 := c55_13
                refine xk_push rfl (p := 76) rfl ?_
                refine xk_load rfl (p := 77) rfl rfl ?_
                refine xk_bin rfl (p := 78) rfl (z := ((100 + k : Nat) : Int)) (congrArg some (xadd_n (n := 100) (m := k) (by omega))) ?_
                refine xk_rete rfl (rfl) ?_
                exact (show y_judge m x y = ((100 + k : Nat) : Int) from ((jd_cut (k := k) (by omega) (by omega) (by omega) hi1 (by omega)).trans (by omega))).symm
              · replace c55_13 : ¬ (y < 0) := c55_13
                refine xk_load rfl (p := 59) rfl rfl ?_
                refine xk_un rfl (p := 60) rfl (w := (1, y)) (rfl) ?_
                refine xk_load rfl (p := 61) rfl rfl ?_
                refine xk_un rfl (p := 62) rfl (w := (1, ((k : Nat) : Int))) (rfl) ?_
                refine xk_lbin rfl (p := 63) rfl rfl (w := (1, (y + ((k : Nat) : Int)))) (congrArg (fun z => some ((1, z) : xV)) (xladd_r (by omega) (by omega))) ?_
                refine xk_load rfl (p := 64) rfl rfl ?_
                refine xk_getf rfl (p := 67) rfl (xob (ly_m L) (by decide)) (v := (2, ((317 : Nat) : Int))) (xsl2 rfl (ly_mp40 L)) ?_
                refine xk_load rfl (p := 68) rfl rfl ?_
                refine xk_aldi rfl (p := 69) rfl (show 0 ≤ x by omega) (v := (0, m 317 (x.toNat))) ((xal0 (ly_ms40 L) (show x.toNat < 6 by omega)).trans (congrArg (fun z => some (0, z)) (hM 317 (x.toNat) (by decide)))) ?_
                have hT_ := hT (x.toNat) (by omega)
                refine xk_un rfl (p := 70) rfl (w := (1, m 317 (x.toNat))) (rfl) ?_
                refine xk_lbin rfl (p := 71) rfl rfl (w := (0, xlcmp (y + ((k : Nat) : Int)) (m 317 (x.toNat)))) (rfl) ?_
                have xl70_ := @xlcmp_c (y + ((k : Nat) : Int)) (m 317 (x.toNat))
                refine xk_if rfl (p := 74) rfl (fun c71_14 => ?_) (fun c71_14 => ?_)
                · replace c71_14 : xlcmp (y + ((k : Nat) : Int)) (m 317 (x.toNat)) < 0 := c71_14
                  refine xk_load rfl (p := 80) rfl rfl ?_
                  refine xk_getf rfl (p := 83) rfl (xob (ly_m L) (by decide)) (v := (2, ((318 : Nat) : Int))) (xsl2 rfl (ly_mp41 L)) ?_
                  refine xk_push rfl (p := 85) rfl ?_
                  refine xk_load rfl (p := 86) rfl rfl ?_
                  refine xk_bin rfl (p := 87) rfl (z := (60 * x)) (congrArg some (xmul_r (by omega) (by omega))) ?_
                  refine xk_load rfl (p := 88) rfl rfl ?_
                  refine xk_bin rfl (p := 89) rfl (z := ((60 * x) + y)) (congrArg some (xadd_r (by omega) (by omega))) ?_
                  refine xk_load rfl (p := 90) rfl rfl ?_
                  refine xk_bin rfl (p := 91) rfl (z := (((60 * x) + y) + ((k : Nat) : Int))) (congrArg some (xadd_r (by omega) (by omega))) ?_
                  refine xk_aldi rfl (p := 92) rfl (show 0 ≤ (((60 * x) + y) + ((k : Nat) : Int)) by omega) (v := (1, m 318 (60 * x.toNat + y.toNat + k))) ((xal1 (ly_ms41 L) (show (((60 * x) + y) + ((k : Nat) : Int)).toNat < 360 by omega)).trans (congrArg (fun z => some (1, z)) ((hM 318 ((((60 * x) + y) + ((k : Nat) : Int)).toNat) (by decide)).trans (congrArg (m 318) (by omega))))) ?_
                  refine xk_load rfl (p := 93) rfl rfl ?_
                  refine xk_load rfl (p := 94) rfl rfl ?_
                  refine xk_callp rfl (p := 97) rfl (by decide) rfl (Nat.le_of_ble_eq_true rfl) (Nat.le_of_ble_eq_true rfl) (xrv (ly_m L) (by decide)) (as := [(2, ((292 : Nat) : Int)), (0, ((k : Nat) : Int))]) (r := [(1, m 318 (60 * x.toNat + y.toNat + k))]) rfl (v := (0, sVal m k)) (n_value L hM hI (show k < 12 by omega)) ?_
                  refine xk_un rfl (p := 98) rfl (w := (1, sVal m k)) (rfl) ?_
                  refine xk_lbin rfl (p := 99) rfl rfl (w := (0, xlcmp (m 318 (60 * x.toNat + y.toNat + k)) (sVal m k))) (rfl) ?_
                  have xl98_ := @xlcmp_c (m 318 (60 * x.toNat + y.toNat + k)) (sVal m k)
                  refine xk_if rfl (p := 102) rfl (fun c99_15 => ?_) (fun c99_15 => ?_)
                  · replace c99_15 : xlcmp (m 318 (60 * x.toNat + y.toNat + k)) (sVal m k) = 0 := c99_15
                    refine xk_inc1 rfl (p := 107) rfl (n := k) rfl (by omega) (ls' := [(2, ((292 : Nat) : Int)), (0, x), (0, y), (0, ((k + 1 : Nat) : Int))]) rfl ?_
                    refine xk_goto rfl ?_
                    exact ih10 (by omega)  (by exact xall_up hi1 (by omega))
                  · replace c99_15 : ¬ (xlcmp (m 318 (60 * x.toNat + y.toNat + k)) (sVal m k) = 0) := c99_15
                    refine xk_load rfl (p := 103) rfl rfl ?_
                    refine xk_rete rfl (rfl) ?_
                    exact (show y_judge m x y = ((k : Nat) : Int) from (jd_dif (k := k) (by omega) (by omega) (by omega) hi1 (by omega) (by omega))).symm
                · replace c71_14 : ¬ (xlcmp (y + ((k : Nat) : Int)) (m 317 (x.toNat)) < 0) := c71_14
                  refine xk_push rfl (p := 76) rfl ?_
                  refine xk_load rfl (p := 77) rfl rfl ?_
                  refine xk_bin rfl (p := 78) rfl (z := ((100 + k : Nat) : Int)) (congrArg some (xadd_n (n := 100) (m := k) (by omega))) ?_
                  refine xk_rete rfl (rfl) ?_
                  exact (show y_judge m x y = ((100 + k : Nat) : Int) from ((jd_cut (k := k) (by omega) (by omega) (by omega) hi1 (by omega)).trans (by omega))).symm
        exact lp10 0 (by omega)  (by intro q hq; omega)
      · replace c28_9 : ¬ (m 316 (x.toNat) = 2) := c28_9
        refine xk_push rfl (p := 33) rfl ?_
        refine xk_rete rfl (rfl) ?_
        exact (show y_judge m x y = (-12) from ((if_pos (by omega)).trans (if_neg (by omega)))).symm
  · replace c6_1 : ¬ (0 ≤ x ∧ x ≤ 5) := xb_e1 c6_1
    refine xk_push rfl (p := 10) rfl ?_
    refine xk_rete rfl (rfl) ?_
    exact (show y_judge m x y = (-1) from (if_neg (by omega))).symm

theorem c_holds {d : Nat} {g : xG} {t m : xD} {e : Nat} {p n : Int} (L : xLay g) (he : e < 6) (hP : TP t m) (hT : MT m) : xCall (d) 62 [(2, (((280 + 2 * e) : Nat) : Int)), (0, p), (0, n)] g t (xQ g t (some (0, if 0 ≤ n ∧ 0 ≤ p ∧ p + n ≤ m 317 e then (1 : Int) else 0))) := by
  show xOk (d) 62 0 [(2, (((280 + 2 * e) : Nat) : Int)), (0, p), (0, n)] [] g t _
  refine xk_load rfl (p := 1) rfl rfl ?_
  refine xk_if rfl (p := 4) rfl (fun c1_1 => ?_) (fun c1_1 => ?_)
  · replace c1_1 : n < 0 := c1_1
    refine xk_push rfl (p := 31) rfl ?_
    refine xk_rete rfl (rfl) ?_
    exact (if_neg (by omega)).symm
  · replace c1_1 : ¬ (n < 0) := c1_1
    refine xk_load rfl (p := 5) rfl rfl ?_
    refine xk_if rfl (p := 8) rfl (fun c5_2 => ?_) (fun c5_2 => ?_)
    · replace c5_2 : p < 0 := c5_2
      refine xk_push rfl (p := 31) rfl ?_
      refine xk_rete rfl (rfl) ?_
      exact (if_neg (by omega)).symm
    · replace c5_2 : ¬ (p < 0) := c5_2
      refine xk_load rfl (p := 9) rfl rfl ?_
      refine xk_load rfl (p := 10) rfl rfl ?_
      refine xk_getf rfl (p := 13) rfl (xob ((ly_tp L (show e < 6 by omega)).1) (by decide)) (v := (0, m 317 e)) (xsl0 rfl ((hP e (by omega)).2.1)) ?_
      have hT_ := hT e (by omega)
      refine xk_icmp rfl (p := 16) rfl (fun c13_3 => ?_) (fun c13_3 => ?_)
      · replace c13_3 : m 317 e < p := c13_3
        refine xk_push rfl (p := 31) rfl ?_
        refine xk_rete rfl (rfl) ?_
        exact (if_neg (by omega)).symm
      · replace c13_3 : ¬ (m 317 e < p) := c13_3
        refine xk_load rfl (p := 17) rfl rfl ?_
        refine xk_load rfl (p := 18) rfl rfl ?_
        refine xk_getf rfl (p := 21) rfl (xob ((ly_tp L (show e < 6 by omega)).1) (by decide)) (v := (0, m 317 e)) (xsl0 rfl ((hP e (by omega)).2.1)) ?_
        have hT_ := hT e (by omega)
        refine xk_load rfl (p := 22) rfl rfl ?_
        refine xk_bin rfl (p := 23) rfl (z := (m 317 e - p)) (congrArg some (xsub_r (by omega) (by omega))) ?_
        refine xk_icmp rfl (p := 26) rfl (fun c23_4 => ?_) (fun c23_4 => ?_)
        · replace c23_4 : (m 317 e - p) < n := c23_4
          refine xk_push rfl (p := 31) rfl ?_
          refine xk_rete rfl (rfl) ?_
          exact (if_neg (by omega)).symm
        · replace c23_4 : ¬ ((m 317 e - p) < n) := c23_4
          refine xk_push rfl (p := 27) rfl ?_
          refine xk_goto rfl ?_
          refine xk_rete rfl (rfl) ?_
          exact (if_pos (by omega)).symm

theorem TP.sh {t m : xD} {x z i j n : Nat} (h : TP t m) (hx : x < 6) (hz : z < 6) (h1 : ((i + n : Nat) : Int) ≤ m 317 x) (h2 : ((j + n : Nat) : Int) ≤ m 317 z) (h3 : m 317 z ≤ 60) (h4 : ∀ k, k < 6 → m 317 k ≤ 60) : TP (xcpy t (280 + 2 * x + 1) i (280 + 2 * z + 1) j n) (tSh m (60 * x + i) (60 * z + j) 0 n) := by
  intro k hk
  have a := h k hk
  have q := h4 k hk
  rw [tSh_ne (by omega), tSh_ne (by omega)]
  refine ⟨(xcpy_ne (by omega)).trans a.1, (xcpy_ne (by omega)).trans a.2.1, fun e he => ?_⟩
  by_cases c : k = z ∧ j ≤ e ∧ e < j + n
  · rw [c.1, xcpy_eq (by omega), tSh_in (by omega)]
    refine ((h x hx).2.2 (i + (e - j)) (by omega)).trans (congrArg (m 318) (by omega))
  · rw [xcpy_ne (by omega), tSh_ne (by omega)]
    exact a.2.2 e he
theorem Ft.cp {t : xD} {x z i j n : Nat} (hz : z < 6) : Ft t (xcpy t (280 + 2 * x + 1) i (280 + 2 * z + 1) j n) := fun b k hh => xcpy_ne (by omega)
theorem c_shift {d : Nat} {g : xG} {t m : xD} {x i z j n : Int} (L : xLay g) (hP : TP t m) (hT : MT m) : xCall (d + 1) 106 [(2, ((2 : Nat) : Int)), (0, x), (0, i), (0, z), (0, j), (0, n)] g t (tQ0 g t (y_shift m x i z j n)) := by
  show xOk (d + 1) 106 0 [(2, ((2 : Nat) : Int)), (0, x), (0, i), (0, z), (0, j), (0, n), (3, 0), (3, 0)] [] g t _
  refine xk_load rfl (p := 1) rfl rfl ?_
  refine xk_callp rfl (p := 4) rfl (by decide) rfl (Nat.le_of_ble_eq_true rfl) (Nat.le_of_ble_eq_true rfl) (rfl) (as := [(0, x)]) (r := []) rfl (v := (0, (if 0 ≤ x ∧ x ≤ 5 then (1 : Int) else 0))) (c_isTape) ?_
  refine xk_if rfl (p := 7) rfl (fun c4_1 => ?_) (fun c4_1 => ?_)
  · replace c4_1 : ¬ (0 ≤ x ∧ x ≤ 5) := xb_e0 c4_1
    refine xk_push rfl (p := 15) rfl ?_
    refine xk_ret rfl (rfl) ?_
    exact tRet (show y_shift m x i z j n = (some (0, (-1)), m) from by unfold y_shift; (repeat' split) <;> first | (exfalso; omega) | rfl) hP Ft.rf
  · replace c4_1 : 0 ≤ x ∧ x ≤ 5 := xb_n0 c4_1
    refine xk_load rfl (p := 8) rfl rfl ?_
    refine xk_callp rfl (p := 11) rfl (by decide) rfl (Nat.le_of_ble_eq_true rfl) (Nat.le_of_ble_eq_true rfl) (rfl) (as := [(0, z)]) (r := []) rfl (v := (0, (if 0 ≤ z ∧ z ≤ 5 then (1 : Int) else 0))) (c_isTape) ?_
    refine xk_if rfl (p := 14) rfl (fun c11_2 => ?_) (fun c11_2 => ?_)
    · replace c11_2 : 0 ≤ z ∧ z ≤ 5 := xb_n0 c11_2
      refine xk_load rfl (p := 17) rfl rfl ?_
      refine xk_getf rfl (p := 20) rfl (xob (ly_x L) (by decide)) (v := (2, ((279 : Nat) : Int))) (xsl2 rfl (ly_x5 L)) ?_
      refine xk_load rfl (p := 21) rfl rfl ?_
      refine xk_aldi rfl (p := 22) rfl (show 0 ≤ x by omega) (v := (2, (((280 + 2 * (x.toNat)) : Nat) : Int))) (xal2 (ly_tt L) (by decide) (show x.toNat < 6 by omega) (ly_te L (show x.toNat < 6 by omega))) ?_
      refine xk_store rfl (p := 24) rfl (by decide) (Nat.le_of_ble_eq_true rfl) (ls' := [(2, ((2 : Nat) : Int)), (0, x), (0, i), (0, z), (0, j), (0, n), (2, (((280 + 2 * (x.toNat)) : Nat) : Int)), (3, 0)]) rfl ?_
      refine xk_load rfl (p := 25) rfl rfl ?_
      refine xk_getf rfl (p := 28) rfl (xob (ly_x L) (by decide)) (v := (2, ((279 : Nat) : Int))) (xsl2 rfl (ly_x5 L)) ?_
      refine xk_load rfl (p := 29) rfl rfl ?_
      refine xk_aldi rfl (p := 30) rfl (show 0 ≤ z by omega) (v := (2, (((280 + 2 * (z.toNat)) : Nat) : Int))) (xal2 (ly_tt L) (by decide) (show z.toNat < 6 by omega) (ly_te L (show z.toNat < 6 by omega))) ?_
      refine xk_store rfl (p := 32) rfl (by decide) (Nat.le_of_ble_eq_true rfl) (ls' := [(2, ((2 : Nat) : Int)), (0, x), (0, i), (0, z), (0, j), (0, n), (2, (((280 + 2 * (x.toNat)) : Nat) : Int)), (2, (((280 + 2 * (z.toNat)) : Nat) : Int))]) rfl ?_
      refine xk_load rfl (p := 34) rfl rfl ?_
      refine xk_getf rfl (p := 37) rfl (xob ((ly_tp L (show x.toNat < 6 by omega)).1) (by decide)) (v := (0, m 316 (x.toNat))) (xsl0 rfl ((hP (x.toNat) (by omega)).1)) ?_
      have hT_ := hT (x.toNat) (by omega)
      refine xk_push rfl (p := 38) rfl ?_
      refine xk_icmp rfl (p := 41) rfl (fun c38_3 => ?_) (fun c38_3 => ?_)
      · replace c38_3 : m 316 (x.toNat) = (-1) := c38_3
        refine xk_push rfl (p := 52) rfl ?_
        refine xk_ret rfl (rfl) ?_
        exact tRet (show y_shift m x i z j n = (some (0, (-11)), m) from by unfold y_shift; (repeat' split) <;> first | (exfalso; omega) | rfl) hP Ft.rf
      · replace c38_3 : ¬ (m 316 (x.toNat) = (-1)) := c38_3
        refine xk_load rfl (p := 43) rfl rfl ?_
        refine xk_getf rfl (p := 46) rfl (xob ((ly_tp L (show z.toNat < 6 by omega)).1) (by decide)) (v := (0, m 316 (z.toNat))) (xsl0 rfl ((hP (z.toNat) (by omega)).1)) ?_
        have hT_ := hT (z.toNat) (by omega)
        refine xk_push rfl (p := 47) rfl ?_
        refine xk_icmp rfl (p := 50) rfl (fun c47_4 => ?_) (fun c47_4 => ?_)
        · replace c47_4 : ¬ (m 316 (z.toNat) = (-1)) := c47_4
          refine xk_load rfl (p := 55) rfl rfl ?_
          refine xk_getf rfl (p := 58) rfl (xob ((ly_tp L (show x.toNat < 6 by omega)).1) (by decide)) (v := (0, m 316 (x.toNat))) (xsl0 rfl ((hP (x.toNat) (by omega)).1)) ?_
          have hT_ := hT (x.toNat) (by omega)
          refine xk_load rfl (p := 60) rfl rfl ?_
          refine xk_getf rfl (p := 63) rfl (xob ((ly_tp L (show z.toNat < 6 by omega)).1) (by decide)) (v := (0, m 316 (z.toNat))) (xsl0 rfl ((hP (z.toNat) (by omega)).1)) ?_
          have hT_ := hT (z.toNat) (by omega)
          refine xk_icmp rfl (p := 66) rfl (fun c63_5 => ?_) (fun c63_5 => ?_)
          · replace c63_5 : m 316 (x.toNat) = m 316 (z.toNat) := c63_5
            refine xk_load rfl (p := 71) rfl rfl ?_
            refine xk_load rfl (p := 72) rfl rfl ?_
            refine xk_load rfl (p := 74) rfl rfl ?_
            refine xk_callp rfl (p := 77) rfl (by decide) rfl (Nat.le_of_ble_eq_true rfl) (Nat.le_of_ble_eq_true rfl) (xrv ((ly_tp L (show x.toNat < 6 by omega)).1) (by decide)) (as := [(2, (((280 + 2 * (x.toNat)) : Nat) : Int)), (0, i), (0, n)]) (r := []) rfl (v := (0, (if 0 ≤ n ∧ 0 ≤ i ∧ i + n ≤ m 317 (x.toNat) then (1 : Int) else 0))) (c_holds L (show x.toNat < 6 by omega) hP hT) ?_
            refine xk_if rfl (p := 80) rfl (fun c77_6 => ?_) (fun c77_6 => ?_)
            · replace c77_6 : ¬ (0 ≤ n ∧ 0 ≤ i ∧ i + n ≤ m 317 (x.toNat)) := xb_e0 c77_6
              refine xk_push rfl (p := 94) rfl ?_
              refine xk_ret rfl (rfl) ?_
              exact tRet (show y_shift m x i z j n = (some (0, (-13)), m) from by unfold y_shift; (repeat' split) <;> first | (exfalso; omega) | rfl) hP Ft.rf
            · replace c77_6 : 0 ≤ n ∧ 0 ≤ i ∧ i + n ≤ m 317 (x.toNat) := xb_n0 c77_6
              refine xk_load rfl (p := 82) rfl rfl ?_
              refine xk_load rfl (p := 84) rfl rfl ?_
              refine xk_load rfl (p := 86) rfl rfl ?_
              refine xk_callp rfl (p := 89) rfl (by decide) rfl (Nat.le_of_ble_eq_true rfl) (Nat.le_of_ble_eq_true rfl) (xrv ((ly_tp L (show z.toNat < 6 by omega)).1) (by decide)) (as := [(2, (((280 + 2 * (z.toNat)) : Nat) : Int)), (0, j), (0, n)]) (r := []) rfl (v := (0, (if 0 ≤ n ∧ 0 ≤ j ∧ j + n ≤ m 317 (z.toNat) then (1 : Int) else 0))) (c_holds L (show z.toNat < 6 by omega) hP hT) ?_
              refine xk_if rfl (p := 92) rfl (fun c89_7 => ?_) (fun c89_7 => ?_)
              · replace c89_7 : 0 ≤ n ∧ 0 ≤ j ∧ j + n ≤ m 317 (z.toNat) := xb_n0 c89_7
                refine xk_load rfl (p := 97) rfl rfl ?_
                refine xk_getf rfl (p := 100) rfl (xob ((ly_tp L (show x.toNat < 6 by omega)).1) (by decide)) (v := (2, ((((280 + 2 * (x.toNat)) + 1) : Nat) : Int))) (xsl2 rfl ((ly_tp L (show x.toNat < 6 by omega)).2.2)) ?_
                refine xk_load rfl (p := 101) rfl rfl ?_
                refine xk_load rfl (p := 103) rfl rfl ?_
                refine xk_getf rfl (p := 106) rfl (xob ((ly_tp L (show z.toNat < 6 by omega)).1) (by decide)) (v := (2, ((((280 + 2 * (z.toNat)) + 1) : Nat) : Int))) (xsl2 rfl ((ly_tp L (show z.toNat < 6 by omega)).2.2)) ?_
                refine xk_load rfl (p := 108) rfl rfl ?_
                refine xk_load rfl (p := 110) rfl rfl ?_
                refine xk_stk (show _ = (0, ((n.toNat : Nat) : Int)) :: [(0, j), (2, ((((280 + 2 * (z.toNat)) + 1) : Nat) : Int)), (0, i), (2, ((((280 + 2 * (x.toNat)) + 1) : Nat) : Int))] from congrArg (fun zz => ((0, zz) : xV) :: [(0, j), (2, ((((280 + 2 * (z.toNat)) + 1) : Nat) : Int)), (0, i), (2, ((((280 + 2 * (x.toNat)) + 1) : Nat) : Int))]) (Int.toNat_of_nonneg (show 0 ≤ n by omega)).symm) ?_
                refine xk_stk (show _ = (0, ((n.toNat : Nat) : Int)) :: (0, ((j.toNat : Nat) : Int)) :: [(2, ((((280 + 2 * (z.toNat)) + 1) : Nat) : Int)), (0, i), (2, ((((280 + 2 * (x.toNat)) + 1) : Nat) : Int))] from congrArg (fun zz => ((0, ((n.toNat : Nat) : Int)) : xV) :: ((0, zz) : xV) :: [(2, ((((280 + 2 * (z.toNat)) + 1) : Nat) : Int)), (0, i), (2, ((((280 + 2 * (x.toNat)) + 1) : Nat) : Int))]) (Int.toNat_of_nonneg (show 0 ≤ j by omega)).symm) ?_
                refine xk_stk (show _ = (0, ((n.toNat : Nat) : Int)) :: (0, ((j.toNat : Nat) : Int)) :: (2, ((((280 + 2 * (z.toNat)) + 1) : Nat) : Int)) :: (0, ((i.toNat : Nat) : Int)) :: [(2, ((((280 + 2 * (x.toNat)) + 1) : Nat) : Int))] from congrArg (fun zz => ((0, ((n.toNat : Nat) : Int)) : xV) :: ((0, ((j.toNat : Nat) : Int)) : xV) :: ((2, ((((280 + 2 * (z.toNat)) + 1) : Nat) : Int)) : xV) :: ((0, zz) : xV) :: [(2, ((((280 + 2 * (x.toNat)) + 1) : Nat) : Int))]) (Int.toNat_of_nonneg (show 0 ≤ i by omega)).symm) ?_
                refine xk_cpy (n := n.toNat) (dp := j.toNat) (sp := i.toNat) rfl (p := 113) rfl (Nat.le_of_ble_eq_true rfl) (by omega) (by omega) (by decide) ((ly_tp L (show z.toNat < 6 by omega)).2.1) ((ly_tp L (show x.toNat < 6 by omega)).2.1) (by omega) (by omega) (by omega) (by omega) ?_
                refine xk_load rfl (p := 115) rfl rfl ?_
                refine xk_ret rfl (rfl) ?_
                exact tRet (show y_shift m x i z j n = (some (0, n), tSh m (60 * x.toNat + i.toNat) (60 * z.toNat + j.toNat) 0 n.toNat) from by unfold y_shift; (repeat' split) <;> first | (exfalso; omega) | rfl) (hP.sh (by omega) (by omega) (by omega) (by omega) (by omega) (fun k hk => (hT k hk).2.2.2.1)) (Ft.cp (by omega))
              · replace c89_7 : ¬ (0 ≤ n ∧ 0 ≤ j ∧ j + n ≤ m 317 (z.toNat)) := xb_e1 c89_7
                refine xk_push rfl (p := 94) rfl ?_
                refine xk_ret rfl (rfl) ?_
                exact tRet (show y_shift m x i z j n = (some (0, (-13)), m) from by unfold y_shift; (repeat' split) <;> first | (exfalso; omega) | rfl) hP Ft.rf
          · replace c63_5 : ¬ (m 316 (x.toNat) = m 316 (z.toNat)) := c63_5
            refine xk_push rfl (p := 68) rfl ?_
            refine xk_ret rfl (rfl) ?_
            exact tRet (show y_shift m x i z j n = (some (0, (-12)), m) from by unfold y_shift; (repeat' split) <;> first | (exfalso; omega) | rfl) hP Ft.rf
        · replace c47_4 : m 316 (z.toNat) = (-1) := Decidable.not_not.mp c47_4
          refine xk_push rfl (p := 52) rfl ?_
          refine xk_ret rfl (rfl) ?_
          exact tRet (show y_shift m x i z j n = (some (0, (-11)), m) from by unfold y_shift; (repeat' split) <;> first | (exfalso; omega) | rfl) hP Ft.rf
    · replace c11_2 : ¬ (0 ≤ z ∧ z ≤ 5) := xb_e1 c11_2
      refine xk_push rfl (p := 15) rfl ?_
      refine xk_ret rfl (rfl) ?_
      exact tRet (show y_shift m x i z j n = (some (0, (-1)), m) from by unfold y_shift; (repeat' split) <;> first | (exfalso; omega) | rfl) hP Ft.rf

theorem c_judge {d : Nat} {g : xG} {t m : xD} {x y : Int} (L : xLay g) (hI : Inv m) (hR : Rep t 0 m) (hP : TP t m) (hT : MT m) : xCall (d + 2) 98 [(2, ((2 : Nat) : Int)), (0, x), (0, y)] g t (zQ 0 g t (some (0, y_judge m x y), m)) := by
  show xOk (d + 2) 98 0 [(2, ((2 : Nat) : Int)), (0, x), (0, y), (3, 0), (3, 0)] [] g t _
  have iNn_ := iNn hI
  have hs : 0 < 3 := by decide
  have hs1 : 1 < 3 := by decide
  have hs2 : 2 < 3 := by decide
  refine xk_load rfl (p := 1) rfl rfl ?_
  refine xk_callp rfl (p := 4) rfl (by decide) rfl (Nat.le_of_ble_eq_true rfl) (Nat.le_of_ble_eq_true rfl) (rfl) (as := [(0, x)]) (r := []) rfl (v := (0, (if 0 ≤ x ∧ x ≤ 5 then (1 : Int) else 0))) (c_isTape) ?_
  refine xk_if rfl (p := 7) rfl (fun c4_1 => ?_) (fun c4_1 => ?_)
  · replace c4_1 : 0 ≤ x ∧ x ≤ 5 := xb_n0 c4_1
    refine xk_load rfl (p := 10) rfl rfl ?_
    refine xk_getf rfl (p := 13) rfl (xob (ly_x L) (by decide)) (v := (2, ((279 : Nat) : Int))) (xsl2 rfl (ly_x5 L)) ?_
    refine xk_load rfl (p := 14) rfl rfl ?_
    refine xk_aldi rfl (p := 15) rfl (show 0 ≤ x by omega) (v := (2, (((280 + 2 * (x.toNat)) : Nat) : Int))) (xal2 (ly_tt L) (by decide) (show x.toNat < 6 by omega) (ly_te L (show x.toNat < 6 by omega))) ?_
    refine xk_store rfl (p := 16) rfl (by decide) (Nat.le_of_ble_eq_true rfl) (ls' := [(2, ((2 : Nat) : Int)), (0, x), (0, y), (2, (((280 + 2 * (x.toNat)) : Nat) : Int)), (3, 0)]) rfl ?_
    refine xk_load rfl (p := 17) rfl rfl ?_
    refine xk_getf rfl (p := 20) rfl (xob ((ly_tp L (show x.toNat < 6 by omega)).1) (by decide)) (v := (0, m 316 (x.toNat))) (xsl0 rfl ((hP (x.toNat) (by omega)).1)) ?_
    have hT_ := hT (x.toNat) (by omega)
    refine xk_push rfl (p := 21) rfl ?_
    refine xk_icmp rfl (p := 24) rfl (fun c21_2 => ?_) (fun c21_2 => ?_)
    · replace c21_2 : m 316 (x.toNat) = (-1) := c21_2
      refine xk_push rfl (p := 36) rfl ?_
      refine xk_store rfl (p := 38) rfl (by decide) (Nat.le_of_ble_eq_true rfl) (ls' := [(2, ((2 : Nat) : Int)), (0, x), (0, y), (2, (((280 + 2 * (x.toNat)) : Nat) : Int)), (0, 0)]) rfl ?_
      have lp3 : ∀ k : Nat, k ≤ nN m → (∀ q, q < k → ¬ ((m 316 x.toNat = -1 ∨ y < 0 ∨ m 317 x.toNat ≤ y + q) ∨ ¬ m 318 (60 * x.toNat + y.toNat + q) = sVal m q)) → xOk (d + 2) 98 38 [(2, ((2 : Nat) : Int)), (0, x), (0, y), (2, (((280 + 2 * (x.toNat)) : Nat) : Int)), (0, ((k : Nat) : Int))] [] g t (zQ 0 g t (some (0, y_judge m x y), m)) := by
        refine xk_up (nN m) (fun k hkk ih3  hi1 => ?_)
        refine xk_load rfl (p := 40) rfl rfl ?_
        refine xk_load rfl (p := 41) rfl rfl ?_
        refine xk_getf rfl (p := 44) rfl (xob (ly_x L) (by decide)) (v := (2, (((5 + 89 * 0) : Nat) : Int))) (xsl2 rfl (ly_x1 L)) ?_
        refine xk_getf rfl (p := 47) rfl (xob (ly_st L hs) (by decide)) (v := (0, ((nN m : Nat) : Int))) (xsl0 rfl (rNn hR hI)) ?_
        have iNn_ := iNn hI
        refine xk_icmp rfl (p := 50) rfl (fun c47_4 => ?_) (fun c47_4 => ?_)
        · replace c47_4 : ((nN m : Nat) : Int) ≤ ((k : Nat) : Int) := c47_4
          refine xk_push rfl (p := 105) rfl ?_
          refine xk_ret rfl (rfl) ?_
          exact zRet (congrArg (fun z => (some ((0, z) : xV), m)) (show y_judge m x y = (-5) from (jd_end (by omega) (by omega) (by rw [show nN m = k by omega]; exact hi1)))) hR Fr.rf
        · replace c47_4 : ¬ (((nN m : Nat) : Int) ≤ ((k : Nat) : Int)) := c47_4
          refine xk_load rfl (p := 51) rfl rfl ?_
          refine xk_if rfl (p := 54) rfl (fun c51_5 => ?_) (fun c51_5 => ?_)
          · replace c51_5 : y < 0 := c51_5
            refine xk_push rfl (p := 67) rfl ?_
            refine xk_load rfl (p := 69) rfl rfl ?_
            refine xk_bin rfl (p := 70) rfl (z := ((100 + k : Nat) : Int)) (congrArg some (xadd_n (n := 100) (m := k) (by omega))) ?_
            refine xk_ret rfl (rfl) ?_
            exact zRet (congrArg (fun z => (some ((0, z) : xV), m)) (show y_judge m x y = ((100 + k : Nat) : Int) from ((jd_cut (k := k) (by omega) (by omega) (by omega) hi1 (by omega)).trans (by omega)))) hR Fr.rf
          · replace c51_5 : ¬ (y < 0) := c51_5
            refine xk_load rfl (p := 55) rfl rfl ?_
            refine xk_load rfl (p := 56) rfl rfl ?_
            refine xk_getf rfl (p := 59) rfl (xob ((ly_tp L (show x.toNat < 6 by omega)).1) (by decide)) (v := (0, m 317 (x.toNat))) (xsl0 rfl ((hP (x.toNat) (by omega)).2.1)) ?_
            have hT_ := hT (x.toNat) (by omega)
            refine xk_load rfl (p := 61) rfl rfl ?_
            refine xk_bin rfl (p := 62) rfl (z := (m 317 (x.toNat) - ((k : Nat) : Int))) (congrArg some (xsub_r (by omega) (by omega))) ?_
            refine xk_icmp rfl (p := 65) rfl (fun c62_6 => ?_) (fun c62_6 => ?_)
            · replace c62_6 : y < (m 317 (x.toNat) - ((k : Nat) : Int)) := c62_6
              refine xk_load rfl (p := 72) rfl rfl ?_
              refine xk_getf rfl (p := 75) rfl (xob ((ly_tp L (show x.toNat < 6 by omega)).1) (by decide)) (v := (2, ((((280 + 2 * (x.toNat)) + 1) : Nat) : Int))) (xsl2 rfl ((ly_tp L (show x.toNat < 6 by omega)).2.2)) ?_
              refine xk_load rfl (p := 76) rfl rfl ?_
              refine xk_load rfl (p := 78) rfl rfl ?_
              refine xk_bin rfl (p := 79) rfl (z := (y + ((k : Nat) : Int))) (congrArg some (xadd_r (by omega) (by omega))) ?_
              refine xk_aldi rfl (p := 80) rfl (show 0 ≤ (y + ((k : Nat) : Int)) by omega) (v := (1, m 318 (60 * x.toNat + y.toNat + k))) ((xal1 ((ly_tp L (show x.toNat < 6 by omega)).2.1) (show (y + ((k : Nat) : Int)).toNat < 60 by omega)).trans (congrArg (fun z => some (1, z)) (((hP x.toNat (by omega)).2.2 ((y + ((k : Nat) : Int)).toNat) (by omega)).trans (congrArg (m 318) (by omega))))) ?_
              refine xk_load rfl (p := 81) rfl rfl ?_
              refine xk_getf rfl (p := 84) rfl (xob (ly_x L) (by decide)) (v := (2, (((5 + 89 * 0) : Nat) : Int))) (xsl2 rfl (ly_x1 L)) ?_
              refine xk_load rfl (p := 86) rfl rfl ?_
              refine xk_callp rfl (p := 89) rfl (by decide) rfl (Nat.le_of_ble_eq_true rfl) (Nat.le_of_ble_eq_true rfl) (xrv (ly_st L hs) (by decide)) (as := [(2, (((5 + 89 * 0) : Nat) : Int)), (0, ((k : Nat) : Int))]) (r := [(1, m 318 (60 * x.toNat + y.toNat + k))]) rfl (v := (0, sVal m k)) (xCall_eq (c_valueOf L hs hI hR (show k < nN m by omega)) cVal_eq) ?_
              refine xk_un rfl (p := 90) rfl (w := (1, sVal m k)) (rfl) ?_
              refine xk_lbin rfl (p := 91) rfl rfl (w := (0, xlcmp (m 318 (60 * x.toNat + y.toNat + k)) (sVal m k))) (rfl) ?_
              have xl90_ := @xlcmp_c (m 318 (60 * x.toNat + y.toNat + k)) (sVal m k)
              refine xk_if rfl (p := 94) rfl (fun c91_7 => ?_) (fun c91_7 => ?_)
              · replace c91_7 : xlcmp (m 318 (60 * x.toNat + y.toNat + k)) (sVal m k) = 0 := c91_7
                refine xk_inc1 rfl (p := 100) rfl (n := k) rfl (by omega) (ls' := [(2, ((2 : Nat) : Int)), (0, x), (0, y), (2, (((280 + 2 * (x.toNat)) : Nat) : Int)), (0, ((k + 1 : Nat) : Int))]) rfl ?_
                refine xk_goto rfl ?_
                exact ih3 (by omega)  (by exact xall_up hi1 (by omega))
              · replace c91_7 : ¬ (xlcmp (m 318 (60 * x.toNat + y.toNat + k)) (sVal m k) = 0) := c91_7
                refine xk_load rfl (p := 96) rfl rfl ?_
                refine xk_ret rfl (rfl) ?_
                exact zRet (congrArg (fun z => (some ((0, z) : xV), m)) (show y_judge m x y = ((k : Nat) : Int) from (jd_dif (k := k) (by omega) (by omega) (by omega) hi1 (by omega) (by omega)))) hR Fr.rf
            · replace c62_6 : ¬ (y < (m 317 (x.toNat) - ((k : Nat) : Int))) := c62_6
              refine xk_push rfl (p := 67) rfl ?_
              refine xk_load rfl (p := 69) rfl rfl ?_
              refine xk_bin rfl (p := 70) rfl (z := ((100 + k : Nat) : Int)) (congrArg some (xadd_n (n := 100) (m := k) (by omega))) ?_
              refine xk_ret rfl (rfl) ?_
              exact zRet (congrArg (fun z => (some ((0, z) : xV), m)) (show y_judge m x y = ((100 + k : Nat) : Int) from ((jd_cut (k := k) (by omega) (by omega) (by omega) hi1 (by omega)).trans (by omega)))) hR Fr.rf
      exact lp3 0 (by omega)  (by intro q hq; omega)
    · replace c21_2 : ¬ (m 316 (x.toNat) = (-1)) := c21_2
      refine xk_load rfl (p := 25) rfl rfl ?_
      refine xk_getf rfl (p := 28) rfl (xob ((ly_tp L (show x.toNat < 6 by omega)).1) (by decide)) (v := (0, m 316 (x.toNat))) (xsl0 rfl ((hP (x.toNat) (by omega)).1)) ?_
      have hT_ := hT (x.toNat) (by omega)
      refine xk_push rfl (p := 29) rfl ?_
      refine xk_icmp rfl (p := 32) rfl (fun c29_8 => ?_) (fun c29_8 => ?_)
      · replace c29_8 : m 316 (x.toNat) = 2 := c29_8
        refine xk_push rfl (p := 36) rfl ?_
        refine xk_store rfl (p := 38) rfl (by decide) (Nat.le_of_ble_eq_true rfl) (ls' := [(2, ((2 : Nat) : Int)), (0, x), (0, y), (2, (((280 + 2 * (x.toNat)) : Nat) : Int)), (0, 0)]) rfl ?_
        have lp9 : ∀ k : Nat, k ≤ nN m → (∀ q, q < k → ¬ ((m 316 x.toNat = -1 ∨ y < 0 ∨ m 317 x.toNat ≤ y + q) ∨ ¬ m 318 (60 * x.toNat + y.toNat + q) = sVal m q)) → xOk (d + 2) 98 38 [(2, ((2 : Nat) : Int)), (0, x), (0, y), (2, (((280 + 2 * (x.toNat)) : Nat) : Int)), (0, ((k : Nat) : Int))] [] g t (zQ 0 g t (some (0, y_judge m x y), m)) := by
          refine xk_up (nN m) (fun k hkk ih9  hi1 => ?_)
          refine xk_load rfl (p := 40) rfl rfl ?_
          refine xk_load rfl (p := 41) rfl rfl ?_
          refine xk_getf rfl (p := 44) rfl (xob (ly_x L) (by decide)) (v := (2, (((5 + 89 * 0) : Nat) : Int))) (xsl2 rfl (ly_x1 L)) ?_
          refine xk_getf rfl (p := 47) rfl (xob (ly_st L hs) (by decide)) (v := (0, ((nN m : Nat) : Int))) (xsl0 rfl (rNn hR hI)) ?_
          have iNn_ := iNn hI
          refine xk_icmp rfl (p := 50) rfl (fun c47_10 => ?_) (fun c47_10 => ?_)
          · replace c47_10 : ((nN m : Nat) : Int) ≤ ((k : Nat) : Int) := c47_10
            refine xk_push rfl (p := 105) rfl ?_
            refine xk_ret rfl (rfl) ?_
            exact zRet (congrArg (fun z => (some ((0, z) : xV), m)) (show y_judge m x y = (-5) from (jd_end (by omega) (by omega) (by rw [show nN m = k by omega]; exact hi1)))) hR Fr.rf
          · replace c47_10 : ¬ (((nN m : Nat) : Int) ≤ ((k : Nat) : Int)) := c47_10
            refine xk_load rfl (p := 51) rfl rfl ?_
            refine xk_if rfl (p := 54) rfl (fun c51_11 => ?_) (fun c51_11 => ?_)
            · replace c51_11 : y < 0 := c51_11
              refine xk_push rfl (p := 67) rfl ?_
              refine xk_load rfl (p := 69) rfl rfl ?_
              refine xk_bin rfl (p := 70) rfl (z := ((100 + k : Nat) : Int)) (congrArg some (xadd_n (n := 100) (m := k) (by omega))) ?_
              refine xk_ret rfl (rfl) ?_
              exact zRet (congrArg (fun z => (some ((0, z) : xV), m)) (show y_judge m x y = ((100 + k : Nat) : Int) from ((jd_cut (k := k) (by omega) (by omega) (by omega) hi1 (by omega)).trans (by omega)))) hR Fr.rf
            · replace c51_11 : ¬ (y < 0) := c51_11
              refine xk_load rfl (p := 55) rfl rfl ?_
              refine xk_load rfl (p := 56) rfl rfl ?_
              refine xk_getf rfl (p := 59) rfl (xob ((ly_tp L (show x.toNat < 6 by omega)).1) (by decide)) (v := (0, m 317 (x.toNat))) (xsl0 rfl ((hP (x.toNat) (by omega)).2.1)) ?_
              have hT_ := hT (x.toNat) (by omega)
              refine xk_load rfl (p := 61) rfl rfl ?_
              refine xk_bin rfl (p := 62) rfl (z := (m 317 (x.toNat) - ((k : Nat) : Int))) (congrArg some (xsub_r (by omega) (by omega))) ?_
              refine xk_icmp rfl (p := 65) rfl (fun c62_12 => ?_) (fun c62_12 => ?_)
              · replace c62_12 : y < (m 317 (x.toNat) - ((k : Nat) : Int)) := c62_12
                refine xk_load rfl (p := 72) rfl rfl ?_
                refine xk_getf rfl (p := 75) rfl (xob ((ly_tp L (show x.toNat < 6 by omega)).1) (by decide)) (v := (2, ((((280 + 2 * (x.toNat)) + 1) : Nat) : Int))) (xsl2 rfl ((ly_tp L (show x.toNat < 6 by omega)).2.2)) ?_
                refine xk_load rfl (p := 76) rfl rfl ?_
                refine xk_load rfl (p := 78) rfl rfl ?_
                refine xk_bin rfl (p := 79) rfl (z := (y + ((k : Nat) : Int))) (congrArg some (xadd_r (by omega) (by omega))) ?_
                refine xk_aldi rfl (p := 80) rfl (show 0 ≤ (y + ((k : Nat) : Int)) by omega) (v := (1, m 318 (60 * x.toNat + y.toNat + k))) ((xal1 ((ly_tp L (show x.toNat < 6 by omega)).2.1) (show (y + ((k : Nat) : Int)).toNat < 60 by omega)).trans (congrArg (fun z => some (1, z)) (((hP x.toNat (by omega)).2.2 ((y + ((k : Nat) : Int)).toNat) (by omega)).trans (congrArg (m 318) (by omega))))) ?_
                refine xk_load rfl (p := 81) rfl rfl ?_
                refine xk_getf rfl (p := 84) rfl (xob (ly_x L) (by decide)) (v := (2, (((5 + 89 * 0) : Nat) : Int))) (xsl2 rfl (ly_x1 L)) ?_
                refine xk_load rfl (p := 86) rfl rfl ?_
                refine xk_callp rfl (p := 89) rfl (by decide) rfl (Nat.le_of_ble_eq_true rfl) (Nat.le_of_ble_eq_true rfl) (xrv (ly_st L hs) (by decide)) (as := [(2, (((5 + 89 * 0) : Nat) : Int)), (0, ((k : Nat) : Int))]) (r := [(1, m 318 (60 * x.toNat + y.toNat + k))]) rfl (v := (0, sVal m k)) (xCall_eq (c_valueOf L hs hI hR (show k < nN m by omega)) cVal_eq) ?_
                refine xk_un rfl (p := 90) rfl (w := (1, sVal m k)) (rfl) ?_
                refine xk_lbin rfl (p := 91) rfl rfl (w := (0, xlcmp (m 318 (60 * x.toNat + y.toNat + k)) (sVal m k))) (rfl) ?_
                have xl90_ := @xlcmp_c (m 318 (60 * x.toNat + y.toNat + k)) (sVal m k)
                refine xk_if rfl (p := 94) rfl (fun c91_13 => ?_) (fun c91_13 => ?_)
                · replace c91_13 : xlcmp (m 318 (60 * x.toNat + y.toNat + k)) (sVal m k) = 0 := c91_13
                  refine xk_inc1 rfl (p := 100) rfl (n := k) rfl (by omega) (ls' := [(2, ((2 : Nat) : Int)), (0, x), (0, y), (2, (((280 + 2 * (x.toNat)) : Nat) : Int)), (0, ((k + 1 : Nat) : Int))]) rfl ?_
                  refine xk_goto rfl ?_
                  exact ih9 (by omega)  (by exact xall_up hi1 (by omega))
                · replace c91_13 : ¬ (xlcmp (m 318 (60 * x.toNat + y.toNat + k)) (sVal m k) = 0) := c91_13
                  refine xk_load rfl (p := 96) rfl rfl ?_
                  refine xk_ret rfl (rfl) ?_
                  exact zRet (congrArg (fun z => (some ((0, z) : xV), m)) (show y_judge m x y = ((k : Nat) : Int) from (jd_dif (k := k) (by omega) (by omega) (by omega) hi1 (by omega) (by omega)))) hR Fr.rf
              · replace c62_12 : ¬ (y < (m 317 (x.toNat) - ((k : Nat) : Int))) := c62_12
                refine xk_push rfl (p := 67) rfl ?_
                refine xk_load rfl (p := 69) rfl rfl ?_
                refine xk_bin rfl (p := 70) rfl (z := ((100 + k : Nat) : Int)) (congrArg some (xadd_n (n := 100) (m := k) (by omega))) ?_
                refine xk_ret rfl (rfl) ?_
                exact zRet (congrArg (fun z => (some ((0, z) : xV), m)) (show y_judge m x y = ((100 + k : Nat) : Int) from ((jd_cut (k := k) (by omega) (by omega) (by omega) hi1 (by omega)).trans (by omega)))) hR Fr.rf
        exact lp9 0 (by omega)  (by intro q hq; omega)
      · replace c29_8 : ¬ (m 316 (x.toNat) = 2) := c29_8
        refine xk_push rfl (p := 34) rfl ?_
        refine xk_ret rfl (rfl) ?_
        exact zRet (congrArg (fun z => (some ((0, z) : xV), m)) (show y_judge m x y = (-12) from ((if_pos (by omega)).trans (if_neg (by omega))))) hR Fr.rf
  · replace c4_1 : ¬ (0 ≤ x ∧ x ≤ 5) := xb_e1 c4_1
    refine xk_push rfl (p := 8) rfl ?_
    refine xk_ret rfl (rfl) ?_
    exact zRet (congrArg (fun z => (some ((0, z) : xV), m)) (show y_judge m x y = (-1) from (if_neg (by omega)))) hR Fr.rf
