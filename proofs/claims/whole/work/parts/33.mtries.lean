/-! THE MODEL: TRIES -/
def pc4 (z : Nat) : Nat := xcnt (fun d => z.testBit d) 4
theorem pc4_all : (List.range 16).all (fun z => (decide (z = 0) || decide (1 ≤ pc4 z)) && (List.range 4).all (fun d => !z.testBit d || (decide (xdf z (2 ^ d) < 16) && decide (pc4 (xdf z (2 ^ d)) + 1 = pc4 z) && (List.range 4).all (fun e => !(xdf z (2 ^ d)).testBit e || z.testBit e)))) = true := by decide +kernel
theorem pc4_pos {z : Nat} (h : z < 16) (h0 : ¬ z = 0) : 1 ≤ pc4 z := by
  have := xball pc4_all h
  simp only [Bool.and_eq_true, Bool.or_eq_true, decide_eq_true_eq] at this
  rcases this.1 with e | e
  · exact absurd e h0
  · exact e
theorem pc4_st {z d : Nat} (h : z < 16) (hd : d < 4) (hb : z.testBit d = true) : xdf z (2 ^ d) < 16 ∧ pc4 (xdf z (2 ^ d)) + 1 = pc4 z ∧ ∀ e, e < 4 → (xdf z (2 ^ d)).testBit e = true → z.testBit e = true := by
  have := xball pc4_all h
  simp only [Bool.and_eq_true] at this
  have := xball this.2 hd
  simp only [Bool.and_eq_true, Bool.or_eq_true, Bool.not_eq_true', decide_eq_true_eq] at this
  rcases this with e | e
  · rw [hb] at e
    cases e
  · refine ⟨e.1.1, e.1.2, fun j hj hb2 => ?_⟩
    have := xball e.2 hj
    simp only [Bool.or_eq_true, Bool.not_eq_true'] at this
    rcases this with q | q
    · rw [hb2] at q
      cases q
    · exact q
/-- but what is tried from so deep on, nothing has changed -/
def Sz (e : Nat) (m u : xD) : Prop := ∀ a k, ¬ (a = 315 ∧ 12 * (e + 1) ≤ k) → u a k = m a k
theorem Sz.rf {e : Nat} {m : xD} : Sz e m m := fun _ _ _ => rfl
theorem Sz.up {e : Nat} {m u : xD} (h : Sz e m u) {k : Nat} {x : Int} (hh : 12 * (e + 1) ≤ k) : Sz e m (xupd u 315 k x) := fun b j hb => (xupd_ne (by omega)).trans (h b j hb)
theorem Sz.sx {e : Nat} {m u : xD} (h : Sz e m u) : Sx e m u := fun a k hh => h a k (by omega)
theorem Sz.acc {e : Nat} {m u : xD} (h : Sz e m u) : acc u = acc m := by
  unfold _root_.Jvm.Pilot.CNameRevisionsLaw_law_r9551_db10b6.acc
  rw [h 292 34 (by omega), h 292 35 (by omega), h 292 36 (by omega), h 292 33 (by omega)]
theorem bGo_vi {m u : xD} (h : vw m = vw u) : bGo m = bGo u := by
  show bGo (vw m) = bGo (vw u)
  rw [h]
def sT (m : xD) (n l : Nat) (f : Nat → Int) (dg : Int) (d : Nat) (B : Acc) : Acc := if l.testBit d = true ∧ bGo m d f = true then exA m (m 292 38) (m 292 37) n (xdf l (2 ^ d)) (fUp m d f) (xadd (xadd (xmul 10 dg) ((d : Nat) : Int)) 1) B else B
theorem exA_s {m : xD} {n l : Nat} {f : Nat → Int} {dg : Int} {A : Acc} (h : ¬ l = 0) : exA m (m 292 38) (m 292 37) (n + 1) l f dg A = fold4 (sT m n l f dg) 4 A := by
  unfold exA exG
  rw [if_neg h]
  rfl
def tQ (e n l : Nat) (f : Nat → Int) (dg : Int) (g : xG) (t m : xD) : Option xV → xG → xD → Prop := fun r g1 t1 => g1 = g ∧ r = none ∧ Md t t1 ∧ ∃ m1, Mo t1 m1 ∧ Sx e m m1 ∧ acc m1 = exA m (m 292 38) (m 292 37) n l f dg (acc m)
def PT (n : Nat) : Prop := ∀ (D l e : Nat) (f : Nat → Int) (dg : Int) (g : xG) (t m : xD), xLay g → Mo t m → Inv m → e + n = 4 → l < 16 → pc4 l ≤ n → (m 292 38 = -1 ∨ (0 ≤ m 292 38 ∧ m 292 38 < m 292 0)) → (∀ d, d < 4 → l.testBit d = true → 0 < m 300 d) → (∀ q, q < nN m → m 315 (12 * e + q) = f q) → xCall (D + n + 3) 172 [(2, ((292 : Nat) : Int)), (0, ((l : Nat) : Int)), (0, ((e : Nat) : Int)), (0, dg)] g t (tQ e n l f dg g t m)
/-- what is there behind so many rows -/
def gR (m : xD) (d : Nat) (f : Nat → Int) (r q : Nat) : Int := if 0 ≤ sRow m d ((q : Nat) : Int) ∧ sRow m d ((q : Nat) : Int) < r then m 303 (12 * d + 8 + (sRow m d ((q : Nat) : Int)).toNat) else f q
theorem gR_0 {m : xD} {d q : Nat} {f : Nat → Int} : gR m d f 0 q = f q := if_neg (by omega)
theorem gR_e {m : xD} {d q : Nat} {f : Nat → Int} : gR m d f (nR m d) q = fUp m d f q := by
  have := sRow_rng (m := m) (d := d) (x := ((q : Nat) : Int))
  unfold gR fUp
  by_cases c : sRow m d ((q : Nat) : Int) = -1
  · rw [if_pos c, if_neg (by omega)]
  · rw [if_neg c, if_pos (by omega)]
theorem sRow_is {m : xD} (hI : Inv m) {d r q : Nat} (hd : d < 4) (hk : 0 < m 300 d) (hr : r < nR m d) (h : m 303 (12 * d + r) = ((q : Nat) : Int)) : sRow m d ((q : Nat) : Int) = ((r : Nat) : Int) := by
  unfold sRow
  rw [xf1 (P := fun r => m 303 (12 * d + r) = ((q : Nat) : Int)) hr (fun i hi hh => absurd (iRd hI hd hk (by omega) hr (hh.trans h.symm)) (by omega)) h]
  exact if_pos hr
theorem sRow_no {m : xD} {d r q : Nat} (h : ¬ m 303 (12 * d + r) = ((q : Nat) : Int)) : ¬ sRow m d ((q : Nat) : Int) = ((r : Nat) : Int) := fun e => by
  have := (xix_at (P := fun r => m 303 (12 * d + r) = ((q : Nat) : Int)) (K := nR m d) (by show ¬ sRow m d _ = -1; omega)).1
  have e2 : (sRow m d ((q : Nat) : Int)).toNat = r := by omega
  exact h (by rw [← e2]; exact this)
theorem gR_s {m : xD} (hI : Inv m) {d r q : Nat} {f : Nat → Int} (hd : d < 4) (hk : 0 < m 300 d) (hr : r < nR m d) : gR m d f (r + 1) q = if m 303 (12 * d + r) = ((q : Nat) : Int) then m 303 (12 * d + 8 + r) else gR m d f r q := by
  by_cases c : m 303 (12 * d + r) = ((q : Nat) : Int)
  · have e := sRow_is hI hd hk hr c
    rw [if_pos c]
    unfold gR
    rw [e, if_pos (by omega)]
    rfl
  · have e := sRow_no c
    rw [if_neg c]
    unfold gR
    by_cases c2 : 0 ≤ sRow m d ((q : Nat) : Int) ∧ sRow m d ((q : Nat) : Int) < r
    · rw [if_pos c2, if_pos (by omega)]
    · rw [if_neg c2, if_neg (by omega)]
theorem n_tries_s {n D l e : Nat} {f : Nat → Int} {dg : Int} {g : xG} {t m : xD} (IH : ∀ n', n = n' + 1 → PT n') (L : xLay g) (hM : Mo t m) (hI : Inv m) (hen : e + n = 4) (hl : l < 16) (hp : pc4 l ≤ n) (hA : m 292 38 = -1 ∨ (0 ≤ m 292 38 ∧ m 292 38 < m 292 0)) (hB : ∀ d, d < 4 → l.testBit d = true → 0 < m 300 d) (hf : ∀ q, q < nN m → m 315 (12 * e + q) = f q) : xCall (D + n + 3) 172 [(2, ((292 : Nat) : Int)), (0, ((l : Nat) : Int)), (0, ((e : Nat) : Int)), (0, dg)] g t (tQ e n l f dg g t m) := by
  show xOk (D + n + 3) 172 0 [(2, ((292 : Nat) : Int)), (0, ((l : Nat) : Int)), (0, ((e : Nat) : Int)), (0, dg), (3, 0), (3, 0), (3, 0)] [] g t _
  have iNn_ := iNn hI
  refine xk_push rfl (p := 2) rfl ?_
  refine xk_load rfl (p := 3) rfl rfl ?_
  refine xk_bin rfl (p := 4) rfl (z := ((12 * e : Nat) : Int)) (congrArg some (xmul_n (n := 12) (m := e) (by omega))) ?_
  refine xk_store rfl (p := 6) rfl (by decide) (Nat.le_of_ble_eq_true rfl) (ls' := [(2, ((292 : Nat) : Int)), (0, ((l : Nat) : Int)), (0, ((e : Nat) : Int)), (0, dg), (0, ((12 * e : Nat) : Int)), (3, 0), (3, 0)]) rfl ?_
  refine xk_load rfl (p := 7) rfl rfl ?_
  refine xk_if rfl (p := 10) rfl (fun c7_1 => ?_) (fun c7_1 => ?_)
  · replace c7_1 : ¬ (((l : Nat) : Int) = 0) := c7_1
    obtain ⟨n', rfl⟩ : ∃ n', n = n' + 1 := ⟨n - 1, by have := pc4_pos hl (by omega); omega⟩
    refine xk_push rfl (p := 91) rfl ?_
    refine xk_store rfl (p := 93) rfl (by decide) (Nat.le_of_ble_eq_true rfl) (ls' := [(2, ((292 : Nat) : Int)), (0, ((l : Nat) : Int)), (0, ((e : Nat) : Int)), (0, dg), (0, ((12 * e : Nat) : Int)), (0, 0), (3, 0)]) rfl ?_
    have lp2 : ∀ k : Nat, k ≤ 4 → ∀ (w6 : xV) (m1 : xD) (u1 : xD), (Mo u1 m1) → (Md t u1) → (Sx e m m1) → (acc m1 = fold4 (sT m n' l f dg) k (acc m)) → xOk (D + (n' + 1) + 3) 172 93 [(2, ((292 : Nat) : Int)), (0, ((l : Nat) : Int)), (0, ((e : Nat) : Int)), (0, dg), (0, ((12 * e : Nat) : Int)), (0, ((k : Nat) : Int)), w6] [] g u1 (tQ e (n' + 1) l f dg g t m) := by
      refine xk_up 4 (fun k hkk ih2  w6 m1 u1 h1_1 h1_2 h1_3 h1_4 => ?_)
      have h1N : nN m1 = nN m := by unfold nN; rw [h1_3 292 0 (by omega)]
      refine xk_load rfl (p := 95) rfl rfl ?_
      refine xk_push rfl (p := 96) rfl ?_
      refine xk_icmp rfl (p := 99) rfl (fun c96_3 => ?_) (fun c96_3 => ?_)
      · replace c96_3 : 4 ≤ ((k : Nat) : Int) := c96_3
        refine xk_ret rfl (rfl) ?_
        rw [show k = 4 by omega] at h1_4
        exact ⟨rfl, rfl, h1_2, m1, h1_1, h1_3, h1_4.trans (exA_s (by omega)).symm⟩
      · replace c96_3 : ¬ (4 ≤ ((k : Nat) : Int)) := c96_3
        refine xk_load rfl (p := 100) rfl rfl ?_
        refine xk_load rfl (p := 102) rfl rfl ?_
        refine xk_bin rfl (p := 103) rfl (z := xshr ((l : Nat) : Int) ((k : Nat) : Int)) (rfl) ?_
        refine xk_push rfl (p := 104) rfl ?_
        refine xk_bin rfl (p := 105) rfl (z := (if l.testBit k = true then (1 : Int) else 0)) (congrArg some (xbit_t (by omega) (by omega))) ?_
        refine xk_if rfl (p := 108) rfl (fun c105_4 => ?_) (fun c105_4 => ?_)
        · replace c105_4 : ¬ (l.testBit k = true) := xb_e0 c105_4
          refine xk_inc1 rfl (p := 238) rfl (n := k) rfl (by omega) (ls' := [(2, ((292 : Nat) : Int)), (0, ((l : Nat) : Int)), (0, ((e : Nat) : Int)), (0, dg), (0, ((12 * e : Nat) : Int)), (0, ((k + 1 : Nat) : Int)), w6]) rfl ?_
          refine xk_goto rfl ?_
          exact ih2 (by omega) w6 m1 u1 (by exact h1_1) (by exact h1_2) (by exact h1_3) (by exact h1_4.trans (Eq.symm (if_neg (fun h => by obtain ⟨ha, hb⟩ := h; contradiction))))
        · replace c105_4 : l.testBit k = true := xb_n0 c105_4
          refine xk_load rfl (p := 109) rfl rfl ?_
          refine xk_load rfl (p := 111) rfl rfl ?_
          refine xk_load rfl (p := 113) rfl rfl ?_
          refine xk_callp rfl (p := 116) rfl (by decide) rfl (Nat.le_of_ble_eq_true rfl) (Nat.le_of_ble_eq_true rfl) (xrv (ly_m L) (by decide)) (as := [(2, ((292 : Nat) : Int)), (0, ((k : Nat) : Int)), (0, ((12 * e : Nat) : Int))]) (r := []) rfl (v := (0, (if bGo m k f = true then (1 : Int) else 0))) (xCall_eq (n_canGo (m := m1) (n := k) (e := e) (f := f) L h1_1 (hI.vi h1_3.vi) (by omega) (by rw [h1_3 300 _ (by omega)]; exact hB _ (by omega) (by assumption)) (by omega) (fun q hq => (h1_3 315 _ (by rw [h1N] at hq; omega)).trans (hf q (by rw [h1N] at hq; exact hq)))) (by rw [bGo_vi h1_3.vi])) ?_
          refine xk_if rfl (p := 119) rfl (fun c116_5 => ?_) (fun c116_5 => ?_)
          · replace c116_5 : bGo m k f = true := xb_n0 c116_5
            refine xk_push rfl (p := 123) rfl ?_
            refine xk_store rfl (p := 125) rfl (by decide) (Nat.le_of_ble_eq_true rfl) (ls' := [(2, ((292 : Nat) : Int)), (0, ((l : Nat) : Int)), (0, ((e : Nat) : Int)), (0, dg), (0, ((12 * e : Nat) : Int)), (0, ((k : Nat) : Int)), (0, 0)]) rfl ?_
            have lp6 : ∀ j : Nat, j ≤ nN m → ∀ (m2 : xD) (u2 : xD), (Mo u2 m2) → (Md t u2) → (Sx e m m2) → (acc m2 = acc m1) → (∀ q, q < j → m2 315 (12 * (e + 1) + q) = f q) → xOk (D + (n' + 1) + 3) 172 125 [(2, ((292 : Nat) : Int)), (0, ((l : Nat) : Int)), (0, ((e : Nat) : Int)), (0, dg), (0, ((12 * e : Nat) : Int)), (0, ((k : Nat) : Int)), (0, ((j : Nat) : Int))] [] g u2 (tQ e (n' + 1) l f dg g t m) := by
              refine xk_up (nN m) (fun j hkj ih6  m2 u2 h2_1 h2_2 h2_3 h2_4 h2_5 => ?_)
              refine xk_load rfl (p := 127) rfl rfl ?_
              refine xk_load rfl (p := 128) rfl rfl ?_
              refine xk_getf rfl (p := 131) rfl (xob (ly_m L) (by decide)) (v := (0, ((nN m : Nat) : Int))) (xsl0 rfl (((h2_1 292 0 (by decide)).trans (h2_3 292 0 (by omega))).trans (iNn hI).1)) ?_
              refine xk_icmp rfl (p := 134) rfl (fun c131_7 => ?_) (fun c131_7 => ?_)
              · replace c131_7 : ((nN m : Nat) : Int) ≤ ((j : Nat) : Int) := c131_7
                refine xk_push rfl (p := 164) rfl ?_
                refine xk_store rfl (p := 166) rfl (by decide) (Nat.le_of_ble_eq_true rfl) (ls' := [(2, ((292 : Nat) : Int)), (0, ((l : Nat) : Int)), (0, ((e : Nat) : Int)), (0, dg), (0, ((12 * e : Nat) : Int)), (0, ((k : Nat) : Int)), (0, 0)]) rfl ?_
                have lp8 : ∀ r : Nat, r ≤ nR m k → ∀ (m3 : xD) (u3 : xD), (Mo u3 m3) → (Md t u3) → (Sx e m m3) → (acc m3 = acc m1) → (∀ q, q < nN m → m3 315 (12 * (e + 1) + q) = gR m k f r q) → xOk (D + (n' + 1) + 3) 172 166 [(2, ((292 : Nat) : Int)), (0, ((l : Nat) : Int)), (0, ((e : Nat) : Int)), (0, dg), (0, ((12 * e : Nat) : Int)), (0, ((k : Nat) : Int)), (0, ((r : Nat) : Int))] [] g u3 (tQ e (n' + 1) l f dg g t m) := by
                  refine xk_up (nR m k) (fun r hkr ih8  m3 u3 h3_1 h3_2 h3_3 h3_4 h3_5 => ?_)
                  have h3N : nN m3 = nN m := by unfold nN; rw [h3_3 292 0 (by omega)]
                  refine xk_load rfl (p := 168) rfl rfl ?_
                  refine xk_load rfl (p := 169) rfl rfl ?_
                  refine xk_getf rfl (p := 172) rfl (xob (ly_m L) (by decide)) (v := (2, ((301 : Nat) : Int))) (xsl2 rfl (ly_mp10 L)) ?_
                  refine xk_load rfl (p := 174) rfl rfl ?_
                  refine xk_ald rfl (p := 175) rfl (v := (0, ((nR m k : Nat) : Int))) ((xal0 (ly_ms10 L) (show k < 4 by omega)).trans (congrArg (fun z => some (0, z)) (((h3_1 301 k (by decide)).trans (h3_3 301 k (by omega))).trans (iRn hI (show k < 4 by omega)).1))) ?_
                  have iRn_ := iRn hI (show k < 4 by omega)
                  refine xk_icmp rfl (p := 178) rfl (fun c175_9 => ?_) (fun c175_9 => ?_)
                  · replace c175_9 : ((nR m k : Nat) : Int) ≤ ((r : Nat) : Int) := c175_9
                    refine xk_load rfl (p := 212) rfl rfl ?_
                    refine xk_load rfl (p := 213) rfl rfl ?_
                    refine xk_push rfl (p := 214) rfl ?_
                    refine xk_load rfl (p := 216) rfl rfl ?_
                    refine xk_bin rfl (p := 217) rfl (z := ((2 ^ k : Nat) : Int)) (congrArg some (xshl_n (by omega))) ?_
                    refine xk_push rfl (p := 218) rfl ?_
                    refine xk_bin rfl (p := 219) rfl (z := xxor ((2 ^ k : Nat) : Int) (-1)) (rfl) ?_
                    refine xk_bin rfl (p := 220) rfl (z := ((xdf l (2 ^ k) : Nat) : Int)) (congrArg some (xandn_s (by omega) (p12 (by omega)))) ?_
                    refine xk_load rfl (p := 221) rfl rfl ?_
                    refine xk_push rfl (p := 222) rfl ?_
                    refine xk_bin rfl (p := 223) rfl (z := ((e + 1 : Nat) : Int)) (congrArg some (xadd_n (n := e) (m := 1) (by omega))) ?_
                    refine xk_push rfl (p := 225) rfl ?_
                    refine xk_load rfl (p := 226) rfl rfl ?_
                    refine xk_bin rfl (p := 227) rfl (z := xmul 10 dg) (rfl) ?_
                    refine xk_load rfl (p := 229) rfl rfl ?_
                    refine xk_bin rfl (p := 230) rfl (z := xadd (xmul 10 dg) ((k : Nat) : Int)) (rfl) ?_
                    refine xk_push rfl (p := 231) rfl ?_
                    refine xk_bin rfl (p := 232) rfl (z := xadd (xadd (xmul 10 dg) ((k : Nat) : Int)) 1) (rfl) ?_
                    have pc_ := pc4_st (d := k) hl (by omega) (by assumption)
                    refine xk_call rfl (p := 235) rfl (by decide) rfl (Nat.le_of_ble_eq_true rfl) (Nat.le_of_ble_eq_true rfl) (xrv (ly_m L) (by decide)) (as := [(2, ((292 : Nat) : Int)), (0, ((xdf l (2 ^ k) : Nat) : Int)), (0, ((e + 1 : Nat) : Int)), (0, xadd (xadd (xmul 10 dg) ((k : Nat) : Int)) 1)]) (r := []) rfl (IH n' rfl D (xdf l (2 ^ k)) (e + 1) (fUp m k f) _ g u3 m3 L h3_1 (hI.vi h3_3.vi) (by omega) pc_.1 (by omega) (by rw [h3_3 292 38 (by omega), h3_3 292 0 (by omega)]; exact hA) (fun x hx hb => by rw [h3_3 300 x (by omega)]; exact hB x hx (pc_.2.2 x hx hb)) (fun q hq => by rw [h3_5 q (by rw [h3N] at hq; exact hq), show r = nR m k by omega, gR_e])) ?_
                    rintro _ g u4 ⟨rfl, rfl, hD4, m4, h4_1, h4_3, h4_4⟩
                    refine xk_inc1 rfl (p := 238) rfl (n := k) rfl (by omega) (ls' := [(2, ((292 : Nat) : Int)), (0, ((l : Nat) : Int)), (0, ((e : Nat) : Int)), (0, dg), (0, ((12 * e : Nat) : Int)), (0, ((k + 1 : Nat) : Int)), (0, ((r : Nat) : Int))]) rfl ?_
                    refine xk_goto rfl ?_
                    exact ih2 (by omega) (0, ((r : Nat) : Int)) m4 u4 (by exact h4_1) (by exact h3_2.tr hD4) (by exact h3_3.tr h4_3.dn) (by exact h4_4.trans (by rw [exA_vi h3_3.vi.symm, h3_3 292 38 (by omega), h3_3 292 37 (by omega), h3_4, h1_4]; exact (if_pos ⟨by assumption, by assumption⟩).symm))
                  · replace c175_9 : ¬ (((nR m k : Nat) : Int) ≤ ((r : Nat) : Int)) := c175_9
                    refine xk_load rfl (p := 179) rfl rfl ?_
                    refine xk_getf rfl (p := 182) rfl (xob (ly_m L) (by decide)) (v := (2, ((315 : Nat) : Int))) (xsl2 rfl (ly_mp32 L)) ?_
                    refine xk_load rfl (p := 184) rfl rfl ?_
                    refine xk_push rfl (p := 186) rfl ?_
                    refine xk_bin rfl (p := 187) rfl (z := ((12 * e + 12 : Nat) : Int)) (congrArg some (xadd_n (n := 12 * e) (m := 12) (by omega))) ?_
                    refine xk_load rfl (p := 188) rfl rfl ?_
                    refine xk_load rfl (p := 190) rfl rfl ?_
                    refine xk_load rfl (p := 192) rfl rfl ?_
                    refine xk_callp rfl (p := 195) rfl (by decide) rfl (Nat.le_of_ble_eq_true rfl) (Nat.le_of_ble_eq_true rfl) (xrv (ly_m L) (by decide)) (as := [(2, ((292 : Nat) : Int)), (0, ((k : Nat) : Int)), (0, ((r : Nat) : Int))]) (r := [(0, ((12 * e + 12 : Nat) : Int)), (2, ((315 : Nat) : Int))]) rfl (v := (0, m 303 (12 * k + r))) (xCall_eq (n_nameOf (m := m3) L h3_1 (hI.vi h3_3.vi) (show k < 4 by omega) (show r < 4 by omega)) (h3_3 303 _ (by omega))) ?_
                    have iRo_ := iRo hI (show k < 4 by omega) (hB k (by omega) (by assumption)) (show r < nR m k by omega)
                    refine xk_bin rfl (p := 196) rfl (z := (((12 * e + 12 : Nat) : Int) + m 303 (12 * k + r))) (congrArg some (xadd_r (by omega) (by omega))) ?_
                    refine xk_load rfl (p := 197) rfl rfl ?_
                    refine xk_load rfl (p := 199) rfl rfl ?_
                    refine xk_load rfl (p := 201) rfl rfl ?_
                    refine xk_callp rfl (p := 204) rfl (by decide) rfl (Nat.le_of_ble_eq_true rfl) (Nat.le_of_ble_eq_true rfl) (xrv (ly_m L) (by decide)) (as := [(2, ((292 : Nat) : Int)), (0, ((k : Nat) : Int)), (0, ((r : Nat) : Int))]) (r := [(0, (((12 * e + 12 : Nat) : Int) + m 303 (12 * k + r))), (2, ((315 : Nat) : Int))]) rfl (v := (0, m 303 (12 * k + 8 + r))) (xCall_eq (n_fresh (m := m3) L h3_1 (hI.vi h3_3.vi) (show k < 4 by omega) (show r < 4 by omega)) (h3_3 303 _ (by omega))) ?_
                    refine xk_asti rfl (p := 205) rfl (show 0 ≤ (((12 * e + 12 : Nat) : Int) + m 303 (12 * k + r)) by omega) (by decide) rfl (xsk (ly_ms32 L)) (xsn (ly_ms32 L) (show (((12 * e + 12 : Nat) : Int) + m 303 (12 * k + r)).toNat < 60 by omega)) (by omega) ?_
                    refine xk_inc1 rfl (p := 208) rfl (n := r) rfl (by omega) (ls' := [(2, ((292 : Nat) : Int)), (0, ((l : Nat) : Int)), (0, ((e : Nat) : Int)), (0, dg), (0, ((12 * e : Nat) : Int)), (0, ((k : Nat) : Int)), (0, ((r + 1 : Nat) : Int))]) rfl ?_
                    refine xk_goto rfl ?_
                    exact ih8 (by omega) (xupd m3 315 ((((12 * e + 12 : Nat) : Int) + m 303 (12 * k + r)).toNat) (m 303 (12 * k + 8 + r))) (xupd u3 315 ((((12 * e + 12 : Nat) : Int) + m 303 (12 * k + r)).toNat) (m 303 (12 * k + 8 + r))) (by exact h3_1.up) (by exact h3_2.up (by decide)) (by exact h3_3.up (by omega)) (by exact h3_4) (by intro q hq; rw [gR_s hI (by omega) (hB k (by omega) (by assumption)) (by omega)]; exact dite (m 303 (12 * k + r) = ((q : Nat) : Int)) (fun cq => by rw [if_pos cq, show 12 * (e + 1) + q = (((12 * e + 12 : Nat) : Int) + m 303 (12 * k + r)).toNat by omega]; exact xupd_eq) (fun cq => by rw [if_neg cq]; exact (xupd_ne (by omega)).trans (h3_5 q hq)))
                exact lp8 0 (by omega) m2 u2 (by exact h2_1) (by exact h2_2) (by exact h2_3) (by exact h2_4) (by intro q hq; rw [h2_5 q (by omega), gR_0])
              · replace c131_7 : ¬ (((nN m : Nat) : Int) ≤ ((j : Nat) : Int)) := c131_7
                refine xk_load rfl (p := 135) rfl rfl ?_
                refine xk_getf rfl (p := 138) rfl (xob (ly_m L) (by decide)) (v := (2, ((315 : Nat) : Int))) (xsl2 rfl (ly_mp32 L)) ?_
                refine xk_load rfl (p := 140) rfl rfl ?_
                refine xk_push rfl (p := 142) rfl ?_
                refine xk_bin rfl (p := 143) rfl (z := ((12 * e + 12 : Nat) : Int)) (congrArg some (xadd_n (n := 12 * e) (m := 12) (by omega))) ?_
                refine xk_load rfl (p := 145) rfl rfl ?_
                refine xk_bin rfl (p := 146) rfl (z := ((12 * e + 12 + j : Nat) : Int)) (congrArg some (xadd_n (n := 12 * e + 12) (m := j) (by omega))) ?_
                refine xk_load rfl (p := 147) rfl rfl ?_
                refine xk_getf rfl (p := 150) rfl (xob (ly_m L) (by decide)) (v := (2, ((315 : Nat) : Int))) (xsl2 rfl (ly_mp32 L)) ?_
                refine xk_load rfl (p := 152) rfl rfl ?_
                refine xk_load rfl (p := 154) rfl rfl ?_
                refine xk_bin rfl (p := 155) rfl (z := ((12 * e + j : Nat) : Int)) (congrArg some (xadd_n (n := 12 * e) (m := j) (by omega))) ?_
                refine xk_ald rfl (p := 156) rfl (v := (0, f j)) ((xal0 (ly_ms32 L) (show 12 * e + j < 60 by omega)).trans (congrArg (fun z => some (0, z)) ((h2_1 315 (12 * e + j) (by decide)).trans ((h2_3 315 (12 * e + j) (by omega)).trans ((hf j (by omega))))))) ?_
                refine xk_ast rfl (p := 157) rfl (by decide) rfl (xsk (ly_ms32 L)) (xsn (ly_ms32 L) (show 12 * e + 12 + j < 60 by omega)) (by omega) ?_
                refine xk_inc1 rfl (p := 160) rfl (n := j) rfl (by omega) (ls' := [(2, ((292 : Nat) : Int)), (0, ((l : Nat) : Int)), (0, ((e : Nat) : Int)), (0, dg), (0, ((12 * e : Nat) : Int)), (0, ((k : Nat) : Int)), (0, ((j + 1 : Nat) : Int))]) rfl ?_
                refine xk_goto rfl ?_
                exact ih6 (by omega) (xupd m2 315 (12 * e + 12 + j) (f j)) (xupd u2 315 (12 * e + 12 + j) (f j)) (by exact h2_1.up) (by exact h2_2.up (by decide)) (by exact h2_3.up (by omega)) (by exact h2_4) (by exact fun q hq => dite (q = j) (fun cq => by subst cq; rw [show 12 * (e + 1) + q = 12 * e + 12 + q by omega]; exact xupd_eq) (fun cq => (xupd_ne (by omega)).trans (h2_5 q (by omega))))
            exact lp6 0 (by omega) m1 u1 (by exact h1_1) (by exact h1_2) (by exact h1_3) (by rfl) (by intro q hq; omega)
          · replace c116_5 : ¬ (bGo m k f = true) := xb_e1 c116_5
            refine xk_goto rfl ?_
            refine xk_inc1 rfl (p := 238) rfl (n := k) rfl (by omega) (ls' := [(2, ((292 : Nat) : Int)), (0, ((l : Nat) : Int)), (0, ((e : Nat) : Int)), (0, dg), (0, ((12 * e : Nat) : Int)), (0, ((k + 1 : Nat) : Int)), w6]) rfl ?_
            refine xk_goto rfl ?_
            exact ih2 (by omega) w6 m1 u1 (by exact h1_1) (by exact h1_2) (by exact h1_3) (by exact h1_4.trans (Eq.symm (if_neg (fun h => by obtain ⟨ha, hb⟩ := h; contradiction))))
    exact lp2 0 (by omega) (3, 0) m t (by exact hM) (by exact Md.rf) (by exact Sx.rf) (by rfl)
  · replace c7_1 : ((l : Nat) : Int) = 0 := Decidable.not_not.mp c7_1
    refine xk_load rfl (p := 11) rfl rfl ?_
    refine xk_dup rfl (p := 12) rfl (show ¬ (2 : Nat) = 1 by decide) ?_
    refine xk_getf rfl (p := 15) rfl (xob (ly_m L) (by decide)) (v := (0, m 292 34)) (xsl0 rfl (hM 292 34 (by decide))) ?_
    refine xk_push rfl (p := 16) rfl ?_
    refine xk_bin rfl (p := 17) rfl (z := xadd (m 292 34) 1) (rfl) ?_
    refine xk_putf rfl (p := 20) rfl (xob (ly_m L) (by decide)) rfl (by decide) (by decide) (fun h => absurd h (by decide)) (by omega) ?_
    refine xk_load rfl (p := 21) rfl rfl ?_
    refine xk_getf rfl (p := 24) rfl (xob (ly_m L) (by decide)) (v := (0, m 292 38)) (xsl0 rfl ((xupd_ne (by omega)).trans (hM 292 38 (by decide)))) ?_
    refine xk_push rfl (p := 25) rfl ?_
    refine xk_icmp rfl (p := 28) rfl (fun c25_10 => ?_) (fun c25_10 => ?_)
    · replace c25_10 : m 292 38 = (-1) := c25_10
      refine xk_load rfl (p := 58) rfl rfl ?_
      refine xk_load rfl (p := 60) rfl rfl ?_
      refine xk_callp rfl (p := 63) rfl (by decide) rfl (Nat.le_of_ble_eq_true rfl) (Nat.le_of_ble_eq_true rfl) (xrv (ly_m L) (by decide)) (as := [(2, ((292 : Nat) : Int)), (0, ((12 * e : Nat) : Int))]) (r := []) rfl (v := (0, (if bFit m f = true then (1 : Int) else 0))) (n_isSeen (m := xupd m 292 34 (xadd (m 292 34) 1)) (e := e) (f := f) L (hM.up) hI (by omega) hf) ?_
      refine xk_if rfl (p := 66) rfl (fun c63_11 => ?_) (fun c63_11 => ?_)
      · replace c63_11 : bFit m f = true := xb_n0 c63_11
        refine xk_load rfl (p := 68) rfl rfl ?_
        refine xk_getf rfl (p := 71) rfl (xob (ly_m L) (by decide)) (v := (0, m 292 36)) (xsl0 rfl ((xupd_ne (by omega)).trans (hM 292 36 (by decide)))) ?_
        refine xk_if rfl (p := 74) rfl (fun c71_12 => ?_) (fun c71_12 => ?_)
        · replace c71_12 : ¬ (m 292 36 = 0) := c71_12
          refine xk_load rfl (p := 80) rfl rfl ?_
          refine xk_dup rfl (p := 81) rfl (show ¬ (2 : Nat) = 1 by decide) ?_
          refine xk_getf rfl (p := 84) rfl (xob (ly_m L) (by decide)) (v := (0, m 292 36)) (xsl0 rfl ((xupd_ne (by omega)).trans (hM 292 36 (by decide)))) ?_
          refine xk_push rfl (p := 85) rfl ?_
          refine xk_bin rfl (p := 86) rfl (z := xadd (m 292 36) 1) (rfl) ?_
          refine xk_putf rfl (p := 89) rfl (xob (ly_m L) (by decide)) rfl (by decide) (by decide) (fun h => absurd h (by decide)) (by omega) ?_
          refine xk_ret rfl (rfl) ?_
          have e0 : l = 0 := by omega
          subst e0
          refine ⟨rfl, rfl, ((Md.rf).up (by decide)).up (by decide), _, (hM.up).up, ((Sx.rf).up (by omega)).up (by omega), ?_⟩
          refine Eq.trans ?_ exG_0.symm
          exact Prod.ext rfl (Prod.ext ((if_neg (fun h => by obtain ⟨h1, h2⟩ := h; contradiction)).symm) (Prod.ext ((if_pos (by assumption)).symm) ((if_neg (fun h => by obtain ⟨h1, h2⟩ := h; contradiction)).symm)))
        · replace c71_12 : m 292 36 = 0 := Decidable.not_not.mp c71_12
          refine xk_load rfl (p := 75) rfl rfl ?_
          refine xk_load rfl (p := 76) rfl rfl ?_
          refine xk_putf rfl (p := 79) rfl (xob (ly_m L) (by decide)) rfl (by decide) (by decide) (fun h => absurd h (by decide)) (by omega) ?_
          refine xk_load rfl (p := 80) rfl rfl ?_
          refine xk_dup rfl (p := 81) rfl (show ¬ (2 : Nat) = 1 by decide) ?_
          refine xk_getf rfl (p := 84) rfl (xob (ly_m L) (by decide)) (v := (0, m 292 36)) (xsl0 rfl ((xupd_ne (by omega)).trans (((xupd_ne (by omega)).trans (hM 292 36 (by decide)))))) ?_
          refine xk_push rfl (p := 85) rfl ?_
          refine xk_bin rfl (p := 86) rfl (z := xadd (m 292 36) 1) (rfl) ?_
          refine xk_putf rfl (p := 89) rfl (xob (ly_m L) (by decide)) rfl (by decide) (by decide) (fun h => absurd h (by decide)) (by omega) ?_
          refine xk_ret rfl (rfl) ?_
          have e0 : l = 0 := by omega
          subst e0
          refine ⟨rfl, rfl, (((Md.rf).up (by decide)).up (by decide)).up (by decide), _, ((hM.up).up).up, (((Sx.rf).up (by omega)).up (by omega)).up (by omega), ?_⟩
          refine Eq.trans ?_ exG_0.symm
          exact Prod.ext rfl (Prod.ext ((if_neg (fun h => by obtain ⟨h1, h2⟩ := h; contradiction)).symm) (Prod.ext ((if_pos (by assumption)).symm) ((if_pos ⟨by assumption, by assumption⟩).symm)))
      · replace c63_11 : ¬ (bFit m f = true) := xb_e1 c63_11
        refine xk_ret rfl (rfl) ?_
        have e0 : l = 0 := by omega
        subst e0
        refine ⟨rfl, rfl, (Md.rf).up (by decide), _, hM.up, (Sx.rf).up (by omega), ?_⟩
        refine Eq.trans ?_ exG_0.symm
        exact Prod.ext rfl (Prod.ext ((if_neg (fun h => by obtain ⟨h1, h2⟩ := h; contradiction)).symm) (Prod.ext ((if_neg (by assumption)).symm) ((if_neg (fun h => by obtain ⟨h1, h2⟩ := h; contradiction)).symm)))
    · replace c25_10 : ¬ (m 292 38 = (-1)) := c25_10
      refine xk_load rfl (p := 29) rfl rfl ?_
      refine xk_getf rfl (p := 32) rfl (xob (ly_m L) (by decide)) (v := (2, ((315 : Nat) : Int))) (xsl2 rfl (ly_mp32 L)) ?_
      refine xk_load rfl (p := 34) rfl rfl ?_
      refine xk_load rfl (p := 35) rfl rfl ?_
      refine xk_getf rfl (p := 38) rfl (xob (ly_m L) (by decide)) (v := (0, m 292 38)) (xsl0 rfl ((xupd_ne (by omega)).trans (hM 292 38 (by decide)))) ?_
      refine xk_bin rfl (p := 39) rfl (z := (((12 * e : Nat) : Int) + m 292 38)) (congrArg some (xadd_r (by omega) (by omega))) ?_
      refine xk_aldi rfl (p := 40) rfl (show 0 ≤ (((12 * e : Nat) : Int) + m 292 38) by omega) (v := (0, f ((m 292 38).toNat))) ((xal0 (ly_ms32 L) (show (((12 * e : Nat) : Int) + m 292 38).toNat < 60 by omega)).trans (congrArg (fun z => some (0, z)) (((xupd_ne (by omega)).trans ((hM 315 ((((12 * e : Nat) : Int) + m 292 38).toNat) (by decide)).trans ((congrArg (m 315) (show (((12 * e : Nat) : Int) + m 292 38).toNat = 12 * e + (m 292 38).toNat by omega)).trans (hf ((m 292 38).toNat) (by omega)))))))) ?_
      refine xk_load rfl (p := 41) rfl rfl ?_
      refine xk_getf rfl (p := 44) rfl (xob (ly_m L) (by decide)) (v := (0, m 292 37)) (xsl0 rfl ((xupd_ne (by omega)).trans (hM 292 37 (by decide)))) ?_
      refine xk_icmp rfl (p := 47) rfl (fun c44_13 => ?_) (fun c44_13 => ?_)
      · replace c44_13 : ¬ (f ((m 292 38).toNat) = m 292 37) := c44_13
        refine xk_load rfl (p := 58) rfl rfl ?_
        refine xk_load rfl (p := 60) rfl rfl ?_
        refine xk_callp rfl (p := 63) rfl (by decide) rfl (Nat.le_of_ble_eq_true rfl) (Nat.le_of_ble_eq_true rfl) (xrv (ly_m L) (by decide)) (as := [(2, ((292 : Nat) : Int)), (0, ((12 * e : Nat) : Int))]) (r := []) rfl (v := (0, (if bFit m f = true then (1 : Int) else 0))) (n_isSeen (m := xupd m 292 34 (xadd (m 292 34) 1)) (e := e) (f := f) L (hM.up) hI (by omega) hf) ?_
        refine xk_if rfl (p := 66) rfl (fun c63_14 => ?_) (fun c63_14 => ?_)
        · replace c63_14 : bFit m f = true := xb_n0 c63_14
          refine xk_load rfl (p := 68) rfl rfl ?_
          refine xk_getf rfl (p := 71) rfl (xob (ly_m L) (by decide)) (v := (0, m 292 36)) (xsl0 rfl ((xupd_ne (by omega)).trans (hM 292 36 (by decide)))) ?_
          refine xk_if rfl (p := 74) rfl (fun c71_15 => ?_) (fun c71_15 => ?_)
          · replace c71_15 : ¬ (m 292 36 = 0) := c71_15
            refine xk_load rfl (p := 80) rfl rfl ?_
            refine xk_dup rfl (p := 81) rfl (show ¬ (2 : Nat) = 1 by decide) ?_
            refine xk_getf rfl (p := 84) rfl (xob (ly_m L) (by decide)) (v := (0, m 292 36)) (xsl0 rfl ((xupd_ne (by omega)).trans (hM 292 36 (by decide)))) ?_
            refine xk_push rfl (p := 85) rfl ?_
            refine xk_bin rfl (p := 86) rfl (z := xadd (m 292 36) 1) (rfl) ?_
            refine xk_putf rfl (p := 89) rfl (xob (ly_m L) (by decide)) rfl (by decide) (by decide) (fun h => absurd h (by decide)) (by omega) ?_
            refine xk_ret rfl (rfl) ?_
            have e0 : l = 0 := by omega
            subst e0
            refine ⟨rfl, rfl, ((Md.rf).up (by decide)).up (by decide), _, (hM.up).up, ((Sx.rf).up (by omega)).up (by omega), ?_⟩
            refine Eq.trans ?_ exG_0.symm
            exact Prod.ext rfl (Prod.ext ((if_neg (fun h => by obtain ⟨h1, h2⟩ := h; contradiction)).symm) (Prod.ext ((if_pos (by assumption)).symm) ((if_neg (fun h => by obtain ⟨h1, h2⟩ := h; contradiction)).symm)))
          · replace c71_15 : m 292 36 = 0 := Decidable.not_not.mp c71_15
            refine xk_load rfl (p := 75) rfl rfl ?_
            refine xk_load rfl (p := 76) rfl rfl ?_
            refine xk_putf rfl (p := 79) rfl (xob (ly_m L) (by decide)) rfl (by decide) (by decide) (fun h => absurd h (by decide)) (by omega) ?_
            refine xk_load rfl (p := 80) rfl rfl ?_
            refine xk_dup rfl (p := 81) rfl (show ¬ (2 : Nat) = 1 by decide) ?_
            refine xk_getf rfl (p := 84) rfl (xob (ly_m L) (by decide)) (v := (0, m 292 36)) (xsl0 rfl ((xupd_ne (by omega)).trans (((xupd_ne (by omega)).trans (hM 292 36 (by decide)))))) ?_
            refine xk_push rfl (p := 85) rfl ?_
            refine xk_bin rfl (p := 86) rfl (z := xadd (m 292 36) 1) (rfl) ?_
            refine xk_putf rfl (p := 89) rfl (xob (ly_m L) (by decide)) rfl (by decide) (by decide) (fun h => absurd h (by decide)) (by omega) ?_
            refine xk_ret rfl (rfl) ?_
            have e0 : l = 0 := by omega
            subst e0
            refine ⟨rfl, rfl, (((Md.rf).up (by decide)).up (by decide)).up (by decide), _, ((hM.up).up).up, (((Sx.rf).up (by omega)).up (by omega)).up (by omega), ?_⟩
            refine Eq.trans ?_ exG_0.symm
            exact Prod.ext rfl (Prod.ext ((if_neg (fun h => by obtain ⟨h1, h2⟩ := h; contradiction)).symm) (Prod.ext ((if_pos (by assumption)).symm) ((if_pos ⟨by assumption, by assumption⟩).symm)))
        · replace c63_14 : ¬ (bFit m f = true) := xb_e1 c63_14
          refine xk_ret rfl (rfl) ?_
          have e0 : l = 0 := by omega
          subst e0
          refine ⟨rfl, rfl, (Md.rf).up (by decide), _, hM.up, (Sx.rf).up (by omega), ?_⟩
          refine Eq.trans ?_ exG_0.symm
          exact Prod.ext rfl (Prod.ext ((if_neg (fun h => by obtain ⟨h1, h2⟩ := h; contradiction)).symm) (Prod.ext ((if_neg (by assumption)).symm) ((if_neg (fun h => by obtain ⟨h1, h2⟩ := h; contradiction)).symm)))
      · replace c44_13 : f ((m 292 38).toNat) = m 292 37 := Decidable.not_not.mp c44_13
        refine xk_load rfl (p := 48) rfl rfl ?_
        refine xk_dup rfl (p := 49) rfl (show ¬ (2 : Nat) = 1 by decide) ?_
        refine xk_getf rfl (p := 52) rfl (xob (ly_m L) (by decide)) (v := (0, m 292 35)) (xsl0 rfl ((xupd_ne (by omega)).trans (hM 292 35 (by decide)))) ?_
        refine xk_push rfl (p := 53) rfl ?_
        refine xk_bin rfl (p := 54) rfl (z := xadd (m 292 35) 1) (rfl) ?_
        refine xk_putf rfl (p := 57) rfl (xob (ly_m L) (by decide)) rfl (by decide) (by decide) (fun h => absurd h (by decide)) (by omega) ?_
        refine xk_load rfl (p := 58) rfl rfl ?_
        refine xk_load rfl (p := 60) rfl rfl ?_
        refine xk_callp rfl (p := 63) rfl (by decide) rfl (Nat.le_of_ble_eq_true rfl) (Nat.le_of_ble_eq_true rfl) (xrv (ly_m L) (by decide)) (as := [(2, ((292 : Nat) : Int)), (0, ((12 * e : Nat) : Int))]) (r := []) rfl (v := (0, (if bFit m f = true then (1 : Int) else 0))) (n_isSeen (m := xupd (xupd m 292 34 (xadd (m 292 34) 1)) 292 35 (xadd (m 292 35) 1)) (e := e) (f := f) L ((hM.up).up) hI (by omega) hf) ?_
        refine xk_if rfl (p := 66) rfl (fun c63_16 => ?_) (fun c63_16 => ?_)
        · replace c63_16 : bFit m f = true := xb_n0 c63_16
          refine xk_load rfl (p := 68) rfl rfl ?_
          refine xk_getf rfl (p := 71) rfl (xob (ly_m L) (by decide)) (v := (0, m 292 36)) (xsl0 rfl ((xupd_ne (by omega)).trans (((xupd_ne (by omega)).trans (hM 292 36 (by decide)))))) ?_
          refine xk_if rfl (p := 74) rfl (fun c71_17 => ?_) (fun c71_17 => ?_)
          · replace c71_17 : ¬ (m 292 36 = 0) := c71_17
            refine xk_load rfl (p := 80) rfl rfl ?_
            refine xk_dup rfl (p := 81) rfl (show ¬ (2 : Nat) = 1 by decide) ?_
            refine xk_getf rfl (p := 84) rfl (xob (ly_m L) (by decide)) (v := (0, m 292 36)) (xsl0 rfl ((xupd_ne (by omega)).trans (((xupd_ne (by omega)).trans (hM 292 36 (by decide)))))) ?_
            refine xk_push rfl (p := 85) rfl ?_
            refine xk_bin rfl (p := 86) rfl (z := xadd (m 292 36) 1) (rfl) ?_
            refine xk_putf rfl (p := 89) rfl (xob (ly_m L) (by decide)) rfl (by decide) (by decide) (fun h => absurd h (by decide)) (by omega) ?_
            refine xk_ret rfl (rfl) ?_
            have e0 : l = 0 := by omega
            subst e0
            refine ⟨rfl, rfl, (((Md.rf).up (by decide)).up (by decide)).up (by decide), _, ((hM.up).up).up, (((Sx.rf).up (by omega)).up (by omega)).up (by omega), ?_⟩
            refine Eq.trans ?_ exG_0.symm
            exact Prod.ext rfl (Prod.ext ((if_pos ⟨by assumption, by assumption⟩).symm) (Prod.ext ((if_pos (by assumption)).symm) ((if_neg (fun h => by obtain ⟨h1, h2⟩ := h; contradiction)).symm)))
          · replace c71_17 : m 292 36 = 0 := Decidable.not_not.mp c71_17
            refine xk_load rfl (p := 75) rfl rfl ?_
            refine xk_load rfl (p := 76) rfl rfl ?_
            refine xk_putf rfl (p := 79) rfl (xob (ly_m L) (by decide)) rfl (by decide) (by decide) (fun h => absurd h (by decide)) (by omega) ?_
            refine xk_load rfl (p := 80) rfl rfl ?_
            refine xk_dup rfl (p := 81) rfl (show ¬ (2 : Nat) = 1 by decide) ?_
            refine xk_getf rfl (p := 84) rfl (xob (ly_m L) (by decide)) (v := (0, m 292 36)) (xsl0 rfl ((xupd_ne (by omega)).trans (((xupd_ne (by omega)).trans (((xupd_ne (by omega)).trans (hM 292 36 (by decide)))))))) ?_
            refine xk_push rfl (p := 85) rfl ?_
            refine xk_bin rfl (p := 86) rfl (z := xadd (m 292 36) 1) (rfl) ?_
            refine xk_putf rfl (p := 89) rfl (xob (ly_m L) (by decide)) rfl (by decide) (by decide) (fun h => absurd h (by decide)) (by omega) ?_
            refine xk_ret rfl (rfl) ?_
            have e0 : l = 0 := by omega
            subst e0
            refine ⟨rfl, rfl, ((((Md.rf).up (by decide)).up (by decide)).up (by decide)).up (by decide), _, (((hM.up).up).up).up, ((((Sx.rf).up (by omega)).up (by omega)).up (by omega)).up (by omega), ?_⟩
            refine Eq.trans ?_ exG_0.symm
            exact Prod.ext rfl (Prod.ext ((if_pos ⟨by assumption, by assumption⟩).symm) (Prod.ext ((if_pos (by assumption)).symm) ((if_pos ⟨by assumption, by assumption⟩).symm)))
        · replace c63_16 : ¬ (bFit m f = true) := xb_e1 c63_16
          refine xk_ret rfl (rfl) ?_
          have e0 : l = 0 := by omega
          subst e0
          refine ⟨rfl, rfl, ((Md.rf).up (by decide)).up (by decide), _, (hM.up).up, ((Sx.rf).up (by omega)).up (by omega), ?_⟩
          refine Eq.trans ?_ exG_0.symm
          exact Prod.ext rfl (Prod.ext ((if_pos ⟨by assumption, by assumption⟩).symm) (Prod.ext ((if_neg (by assumption)).symm) ((if_neg (fun h => by obtain ⟨h1, h2⟩ := h; contradiction)).symm)))

theorem n_tries : ∀ n, PT n
  | 0 => fun D l e f dg g t m L hM hI hen hl hp hA hB hf => n_tries_s (fun n' h => by cases h) L hM hI hen hl hp hA hB hf
  | n + 1 => fun D l e f dg g t m L hM hI hen hl hp hA hB hf => n_tries_s (fun n' h => by cases h; exact n_tries n) L hM hI hen hl hp hA hB hf