/-! THE CLASS: LETGO -/
/-- but what is counted, and tried from so deep on, nothing has changed -/
def Gx (e : Nat) (t u : xD) : Prop := ∀ b j, ¬ ((b = 272 ∧ 4 ≤ j ∧ j ≤ 8) ∨ (274 + e < b ∧ b < 279)) → u b j = t b j
theorem Gx.rf {e : Nat} {t : xD} : Gx e t t := fun _ _ _ => rfl
theorem Gx.tr {e : Nat} {t u v : xD} (h1 : Gx e t u) (h2 : Gx e u v) : Gx e t v := fun a k h => (h2 a k h).trans (h1 a k h)
theorem Gx.dn {e : Nat} {t u : xD} (h : Gx (e + 1) t u) : Gx e t u := fun a k hh => h a k (by omega)
theorem ac5.fr {t u : xD} {A : Acd} (h : ac5 t A) (e : ∀ j, 4 ≤ j → j ≤ 8 → u 272 j = t 272 j) : ac5 u A := ⟨(e 4 (by decide) (by decide)).trans h.1, (e 5 (by decide) (by decide)).trans h.2.1, (e 6 (by decide) (by decide)).trans h.2.2.1, (e 7 (by decide) (by decide)).trans h.2.2.2.1, (e 8 (by decide) (by decide)).trans h.2.2.2.2⟩
theorem Rep.gx {t u m : xD} {e : Nat} (h : Rep t 0 m) (hI : Inv m) (g : Gx e t u) : Rep u 0 m := h.st hI (fun a k h1 h2 => g a k (by omega))
def sC (m : xD) (a w : Int) (set n l : Nat) (f : Nat → Int) (dg : Int) (d : Nat) (B : Acd) : Acd := if l.testBit d = true ∧ bGo m d f = true then exC m a w set n (xdf l (2 ^ d)) (fUp m d f) (xadd (xadd (xmul 10 dg) ((d : Nat) : Int)) 1) B else B
def startC (m : xD) (a w : Int) (set l : Nat) (f : Nat → Int) (dg : Int) (A : Acd) : Acd := if l = 0 then lfC m a w f dg (nGo set l A) else nGo set l A
theorem exC_s {m : xD} {a w : Int} {set n l : Nat} {f : Nat → Int} {dg : Int} {A : Acd} : exC m a w set (n + 1) l f dg A = fold4 (sC m a w set n l f dg) 4 (startC m a w set l f dg A) := rfl
theorem nGo_lt {set l : Nat} {A : Acd} (h : A.2 < 4096) (hs : set < 4096) : (nGo set l A).2 < 4096 := by
  show (if _ then xdf set l else A.2) < 4096
  split
  · exact xdf_lt hs
  · exact h
theorem exC_lt {m : xD} {a w : Int} {set : Nat} (hs : set < 4096) : ∀ (n l : Nat) (f : Nat → Int) (dg : Int) (A : Acd), A.2 < 4096 → (exC m a w set n l f dg A).2 < 4096
  | 0, l, f, dg, A, h => by
    have := nGo_lt (l := l) h hs
    show (if l = 0 then lfC m a w f dg (nGo set l A) else nGo set l A).2 < 4096
    split
    · exact this
    · exact this
  | n + 1, l, f, dg, A, h => by
    rw [exC_s]
    have h0 : (startC m a w set l f dg A).2 < 4096 := by
      have := nGo_lt (l := l) h hs
      unfold startC
      split
      · exact this
      · exact this
    exact fold4_inv (P := fun _ (B : Acd) => B.2 < 4096) h0 (fun k (B : Acd) hk hB => by
      show (sC m a w set n l f dg k B).2 < 4096
      unfold sC
      split
      · exact exC_lt hs n _ _ _ _ hB
      · exact hB) 4 (Nat.le_refl 4)
def gQ (e n l set : Nat) (f : Nat → Int) (dg a w : Int) (A : Acd) (m : xD) (g : xG) (t : xD) : Option xV → xG → xD → Prop := fun r g1 t1 => g1 = g ∧ r = none ∧ Gx e t t1 ∧ ac5 t1 (exC m a w set n l f dg A)
def PG (n : Nat) : Prop := ∀ (D l e set : Nat) (f : Nat → Int) (dg a w : Int) (A : Acd) (g : xG) (t m : xD), xLay g → Rep t 0 m → Inv m → e + n = 4 → l < 16 → pc4 l ≤ n → set < 16 → (a = -1 ∨ (0 ≤ a ∧ a < m 292 0)) → (∀ d, d < 4 → l.testBit d = true → 0 < m 300 d) → (∀ q, q < nN m → t (274 + e) q = f q) → ac5 t A → A.2 < 4096 → t 272 1 = ((set : Nat) : Int) → t 272 2 = a → t 272 3 = w → xCall (D + n + 5) 23 [(2, ((272 : Nat) : Int)), (2, ((5 + 89 * 0 : Nat) : Int)), (0, ((e : Nat) : Int)), (0, ((l : Nat) : Int)), (0, dg)] g t (gQ e n l set f dg a w A m g t)
theorem fold4_lt {m : xD} {a w : Int} {set n l : Nat} {f : Nat → Int} {dg : Int} {B : Acd} (hs : set < 4096) (h : B.2 < 4096) : ∀ k, k ≤ 4 → (fold4 (sC m a w set n l f dg) k B).2 < 4096 := fold4_inv (P := fun _ (B : Acd) => B.2 < 4096) h (fun k (B : Acd) hk hB => by
  show (sC m a w set n l f dg k B).2 < 4096
  unfold sC
  split
  · exact exC_lt hs n _ _ _ _ hB
  · exact hB)
theorem xmul_cm {x y : Int} : xmul x y = xmul y x := by
  unfold xmul
  rw [Int32.mul_comm]
theorem sC_y {m : xD} {a w : Int} {set n l : Nat} {f : Nat → Int} {dg : Int} {d : Nat} {B : Acd} (h : l.testBit d = true ∧ bGo m d f = true) : sC m a w set n l f dg d B = exC m a w set n (xdf l (2 ^ d)) (fUp m d f) (xadd (xadd (xmul 10 dg) ((d : Nat) : Int)) 1) B := if_pos h
theorem sC_n {m : xD} {a w : Int} {set n l : Nat} {f : Nat → Int} {dg : Int} {d : Nat} {B : Acd} (h : ¬ (l.testBit d = true ∧ bGo m d f = true)) : sC m a w set n l f dg d B = B := if_neg h
theorem PG_split (n : Nat) : n = 0 ∨ ∃ j, n = j + 1 := by
  cases n with
  | zero => exact .inl rfl
  | succ n => exact .inr ⟨n, rfl⟩
theorem c_letGo_s {n D l e set : Nat} {f : Nat → Int} {dg a w : Int} {A : Acd} {g : xG} {t m : xD} (IH : ∀ n', n = n' + 1 → PG n') (L : xLay g) (hR : Rep t 0 m) (hI : Inv m) (hen : e + n = 4) (hl : l < 16) (hp : pc4 l ≤ n) (hset : set < 16) (haa : a = -1 ∨ (0 ≤ a ∧ a < m 292 0)) (hB : ∀ d, d < 4 → l.testBit d = true → 0 < m 300 d) (hf : ∀ q, q < nN m → t (274 + e) q = f q) (hA : ac5 t A) (h2 : A.2 < 4096) (hS : t 272 1 = ((set : Nat) : Int)) (ha : t 272 2 = a) (hw : t 272 3 = w) : xCall (D + n + 5) 23 [(2, ((272 : Nat) : Int)), (2, (((5 + 89 * 0) : Nat) : Int)), (0, ((e : Nat) : Int)), (0, ((l : Nat) : Int)), (0, dg)] g t (gQ e n l set f dg a w A m g t) := by
  show xOk (D + n + 5) 23 0 [(2, ((272 : Nat) : Int)), (2, (((5 + 89 * 0) : Nat) : Int)), (0, ((e : Nat) : Int)), (0, ((l : Nat) : Int)), (0, dg), (3, 0), (3, 0), (3, 0), (3, 0), (3, 0)] [] g t _
  have iNn_ := iNn hI
  have hs : 0 < 3 := by decide
  refine xk_load rfl (p := 1) rfl rfl ?_
  refine xk_load rfl (p := 2) rfl rfl ?_
  refine xk_getf rfl (p := 5) rfl (xob (ly_o L) (by decide)) (v := (0, ((set : Nat) : Int))) (xsl0 rfl hS) ?_
  refine xk_load rfl (p := 6) rfl rfl ?_
  refine xk_push rfl (p := 7) rfl ?_
  refine xk_bin rfl (p := 8) rfl (z := xxor ((l : Nat) : Int) (-1)) (rfl) ?_
  refine xk_bin rfl (p := 9) rfl (z := ((xdf set l : Nat) : Int)) (congrArg some (xandn_s (by omega) (by omega))) ?_
  have xl_ : xdf set l < 4096 := xdf_lt (by omega)
  refine xk_call rfl (p := 12) rfl (by decide) rfl (Nat.le_of_ble_eq_true rfl) (Nat.le_of_ble_eq_true rfl) (xrv (ly_o L) (by decide)) (as := [(2, ((272 : Nat) : Int)), (0, ((xdf set l : Nat) : Int))]) (r := []) rfl (c_noteGone L xl_ h2 hA) ?_
  rintro _ g y1 ⟨rfl, rfl, hy1, fy1⟩
  replace hy1 : ac5 y1 (nGo set l A) := hy1
  refine xk_load rfl (p := 13) rfl rfl ?_
  refine xk_if rfl (p := 16) rfl (fun c13_1 => ?_) (fun c13_1 => ?_)
  · replace c13_1 : ¬ (((l : Nat) : Int) = 0) := c13_1
    have st_ : ac5 y1 (startC m a w set l f dg A) := by
      have e0 : ¬ l = 0 := by omega
      unfold startC
      rw [if_neg e0]
      exact hy1
    have gs_ : Gx e t y1 := fun b j hh => fy1 b j (by omega)
    obtain rfl | ⟨n', rfl⟩ := PG_split n
    · skip
      refine xk_push rfl (p := 30) rfl ?_
      refine xk_store rfl (p := 32) rfl (by decide) (Nat.le_of_ble_eq_true rfl) (ls' := [(2, ((272 : Nat) : Int)), (2, (((5 + 89 * 0) : Nat) : Int)), (0, ((e : Nat) : Int)), (0, ((l : Nat) : Int)), (0, dg), (0, 0), (3, 0), (3, 0), (3, 0), (3, 0)]) rfl ?_
      refine xk_load rfl (p := 34) rfl rfl ?_
      refine xk_push rfl (p := 35) rfl ?_
      refine xk_icmp rfl (p := 38) rfl (fun c35_2 => absurd c35_2 (show ¬ ((4 : Int) ≤ (0 : Int)) by decide)) (fun c35_2 => ?_)
      refine xk_load rfl (p := 39) rfl rfl ?_
      refine xk_push rfl (p := 40) rfl ?_
      refine xk_icmp rfl (p := 43) rfl (fun c40_3 => ?_) (fun c40_3 => ?_)
      · replace c40_3 : 4 ≤ ((e : Nat) : Int) := c40_3
        refine xk_ret rfl (rfl) ?_
        exact ⟨rfl, rfl, gs_, st_⟩
      · replace c40_3 : ¬ (4 ≤ ((e : Nat) : Int)) := c40_3
        exfalso; omega
    · skip
      refine xk_push rfl (p := 30) rfl ?_
      refine xk_store rfl (p := 32) rfl (by decide) (Nat.le_of_ble_eq_true rfl) (ls' := [(2, ((272 : Nat) : Int)), (2, (((5 + 89 * 0) : Nat) : Int)), (0, ((e : Nat) : Int)), (0, ((l : Nat) : Int)), (0, dg), (0, 0), (3, 0), (3, 0), (3, 0), (3, 0)]) rfl ?_
      have lp4 : ∀ k : Nat, k ≤ 4 → ∀ (w6 : xV) (w7 : xV) (w8 : xV) (w9 : xV) (u1 : xD), (Gx e t u1) → (ac5 u1 (fold4 (sC m a w set n' l f dg) k (startC m a w set l f dg A))) → xOk (D + (n' + 1) + 5) 23 32 [(2, ((272 : Nat) : Int)), (2, (((5 + 89 * 0) : Nat) : Int)), (0, ((e : Nat) : Int)), (0, ((l : Nat) : Int)), (0, dg), (0, ((k : Nat) : Int)), w6, w7, w8, w9] [] g u1 (gQ e (n' + 1) l set f dg a w A m g t) := by
        refine xk_up 4 (fun k hkk ih4  w6 w7 w8 w9 u1 h1_1 h1_2 => ?_)
        refine xk_load rfl (p := 34) rfl rfl ?_
        refine xk_push rfl (p := 35) rfl ?_
        refine xk_icmp rfl (p := 38) rfl (fun c35_5 => ?_) (fun c35_5 => ?_)
        · replace c35_5 : 4 ≤ ((k : Nat) : Int) := c35_5
          refine xk_ret rfl (rfl) ?_
          rw [show k = 4 by omega] at h1_2
          exact ⟨rfl, rfl, h1_1, h1_2⟩
        · replace c35_5 : ¬ (4 ≤ ((k : Nat) : Int)) := c35_5
          refine xk_load rfl (p := 39) rfl rfl ?_
          refine xk_push rfl (p := 40) rfl ?_
          refine xk_icmp rfl (p := 43) rfl (fun c40_6 => ?_) (fun c40_6 => ?_)
          · replace c40_6 : 4 ≤ ((e : Nat) : Int) := c40_6
            exfalso; omega
          · replace c40_6 : ¬ (4 ≤ ((e : Nat) : Int)) := c40_6
            refine xk_load rfl (p := 44) rfl rfl ?_
            refine xk_getf rfl (p := 47) rfl (xob (ly_st L hs) (by decide)) (v := (2, (((7 + 89 * 0) : Nat) : Int))) (xsl2 rfl (ly_s1 L hs)) ?_
            refine xk_load rfl (p := 49) rfl rfl ?_
            refine xk_ald rfl (p := 50) rfl (v := (2, (((78 + 89 * 0 + 4 * k) : Nat) : Int))) (xal2 (ly_sd L hs) (by decide) (show k < 4 by omega) (ly_de L hs (show k < 4 by omega))) ?_
            refine xk_store rfl (p := 52) rfl (by decide) (Nat.le_of_ble_eq_true rfl) (ls' := [(2, ((272 : Nat) : Int)), (2, (((5 + 89 * 0) : Nat) : Int)), (0, ((e : Nat) : Int)), (0, ((l : Nat) : Int)), (0, dg), (0, ((k : Nat) : Int)), (2, (((78 + 89 * 0 + 4 * k) : Nat) : Int)), w7, w8, w9]) rfl ?_
            refine xk_load rfl (p := 53) rfl rfl ?_
            refine xk_getf rfl (p := 56) rfl (xob (ly_o L) (by decide)) (v := (2, ((273 : Nat) : Int))) (xsl2 rfl (ly_o0 L)) ?_
            refine xk_load rfl (p := 57) rfl rfl ?_
            refine xk_ald rfl (p := 58) rfl (v := (2, (((274 + e) : Nat) : Int))) (xal2 (ly_oo L) (by decide) (show e < 5 by omega) (ly_oe L (show e < 5 by omega))) ?_
            refine xk_store rfl (p := 60) rfl (by decide) (Nat.le_of_ble_eq_true rfl) (ls' := [(2, ((272 : Nat) : Int)), (2, (((5 + 89 * 0) : Nat) : Int)), (0, ((e : Nat) : Int)), (0, ((l : Nat) : Int)), (0, dg), (0, ((k : Nat) : Int)), (2, (((78 + 89 * 0 + 4 * k) : Nat) : Int)), (2, (((274 + e) : Nat) : Int)), w8, w9]) rfl ?_
            refine xk_load rfl (p := 61) rfl rfl ?_
            refine xk_load rfl (p := 63) rfl rfl ?_
            refine xk_bin rfl (p := 64) rfl (z := xshr ((l : Nat) : Int) ((k : Nat) : Int)) (rfl) ?_
            refine xk_push rfl (p := 65) rfl ?_
            refine xk_bin rfl (p := 66) rfl (z := (if l.testBit k = true then (1 : Int) else 0)) (congrArg some (xbit_t (by omega) (by omega))) ?_
            refine xk_if rfl (p := 69) rfl (fun c66_7 => ?_) (fun c66_7 => ?_)
            · replace c66_7 : ¬ (l.testBit k = true) := xb_e0 c66_7
              refine xk_inc1 rfl (p := 170) rfl (n := k) rfl (by omega) (ls' := [(2, ((272 : Nat) : Int)), (2, (((5 + 89 * 0) : Nat) : Int)), (0, ((e : Nat) : Int)), (0, ((l : Nat) : Int)), (0, dg), (0, ((k + 1 : Nat) : Int)), (2, (((78 + 89 * 0 + 4 * k) : Nat) : Int)), (2, (((274 + e) : Nat) : Int)), w8, w9]) rfl ?_
              refine xk_goto rfl ?_
              exact ih4 (by omega) (2, (((78 + 89 * 0 + 4 * k) : Nat) : Int)) (2, (((274 + e) : Nat) : Int)) w8 w9 u1 (by exact h1_1) (by show ac5 u1 (sC m a w set n' l f dg k (fold4 (sC m a w set n' l f dg) k (startC m a w set l f dg A))); rw [sC_n (fun h => by obtain ⟨x1, x2⟩ := h; first | contradiction | exact absurd (go_.mpr x2) (by assumption))]; exact h1_2)
            · replace c66_7 : l.testBit k = true := xb_n0 c66_7
              refine xk_load rfl (p := 70) rfl rfl ?_
              refine xk_load rfl (p := 72) rfl rfl ?_
              refine xk_load rfl (p := 74) rfl rfl ?_
              refine xk_push rfl (p := 75) rfl ?_
              refine xk_push rfl (p := 76) rfl ?_
              refine xk_callp rfl (p := 79) rfl (by decide) rfl (Nat.le_of_ble_eq_true rfl) (Nat.le_of_ble_eq_true rfl) (xrv (ly_st L hs) (by decide)) (as := [(2, (((5 + 89 * 0) : Nat) : Int)), (2, (((78 + 89 * 0 + 4 * k) : Nat) : Int)), (2, (((274 + e) : Nat) : Int)), (0, ((0 : Nat) : Int)), (0, ((0 : Nat) : Int))]) (r := []) rfl (v := (0, wF (wB m k f 0 (nThere m k f 0)) (nR m k))) (c_wrongBy L hs hI (hR.gx hI h1_1) (show k < 4 by omega) (hB k (by omega) (by assumption)) (ly_oi L (show e < 5 by omega)) (fun q hq => (h1_1 _ _ (by omega)).trans (hf q hq)) (by decide) (by decide)) ?_
              have go_ := bGo_wB (f := f) hI (show k < 4 by omega) (hB k (by omega) (by assumption))
              refine xk_if rfl (p := 82) rfl (fun c79_8 => ?_) (fun c79_8 => ?_)
              · replace c79_8 : ¬ (wF (wB m k f 0 (nThere m k f 0)) (nR m k) = 0) := c79_8
                refine xk_inc1 rfl (p := 170) rfl (n := k) rfl (by omega) (ls' := [(2, ((272 : Nat) : Int)), (2, (((5 + 89 * 0) : Nat) : Int)), (0, ((e : Nat) : Int)), (0, ((l : Nat) : Int)), (0, dg), (0, ((k + 1 : Nat) : Int)), (2, (((78 + 89 * 0 + 4 * k) : Nat) : Int)), (2, (((274 + e) : Nat) : Int)), w8, w9]) rfl ?_
                refine xk_goto rfl ?_
                exact ih4 (by omega) (2, (((78 + 89 * 0 + 4 * k) : Nat) : Int)) (2, (((274 + e) : Nat) : Int)) w8 w9 u1 (by exact h1_1) (by show ac5 u1 (sC m a w set n' l f dg k (fold4 (sC m a w set n' l f dg) k (startC m a w set l f dg A))); rw [sC_n (fun h => by obtain ⟨x1, x2⟩ := h; first | contradiction | exact absurd (go_.mpr x2) (by assumption))]; exact h1_2)
              · replace c79_8 : wF (wB m k f 0 (nThere m k f 0)) (nR m k) = 0 := Decidable.not_not.mp c79_8
                refine xk_load rfl (p := 83) rfl rfl ?_
                refine xk_getf rfl (p := 86) rfl (xob (ly_o L) (by decide)) (v := (2, ((273 : Nat) : Int))) (xsl2 rfl (ly_o0 L)) ?_
                refine xk_load rfl (p := 87) rfl rfl ?_
                refine xk_push rfl (p := 88) rfl ?_
                refine xk_bin rfl (p := 89) rfl (z := ((e + 1 : Nat) : Int)) (congrArg some (xadd_n (n := e) (m := 1) (by omega))) ?_
                refine xk_ald rfl (p := 90) rfl (v := (2, (((274 + (e + 1)) : Nat) : Int))) (xal2 (ly_oo L) (by decide) (show e + 1 < 5 by omega) (ly_oe L (show e + 1 < 5 by omega))) ?_
                refine xk_store rfl (p := 92) rfl (by decide) (Nat.le_of_ble_eq_true rfl) (ls' := [(2, ((272 : Nat) : Int)), (2, (((5 + 89 * 0) : Nat) : Int)), (0, ((e : Nat) : Int)), (0, ((l : Nat) : Int)), (0, dg), (0, ((k : Nat) : Int)), (2, (((78 + 89 * 0 + 4 * k) : Nat) : Int)), (2, (((274 + e) : Nat) : Int)), (2, (((274 + (e + 1)) : Nat) : Int)), w9]) rfl ?_
                refine xk_load rfl (p := 94) rfl rfl ?_
                refine xk_push rfl (p := 95) rfl ?_
                refine xk_load rfl (p := 97) rfl rfl ?_
                refine xk_push rfl (p := 98) rfl ?_
                refine xk_push rfl (p := 100) rfl ?_
                refine xk_cpy (n := 12) (dp := 0) (sp := 0) rfl (p := 103) rfl (Nat.le_of_ble_eq_true rfl) (by omega) (by omega) (by decide) (ly_oi L (show e + 1 < 5 by omega)) (ly_oi L (show e < 5 by omega)) (by omega) (by omega) (by omega) (by omega) ?_
                refine xk_push rfl (p := 104) rfl ?_
                refine xk_store rfl (p := 106) rfl (by decide) (Nat.le_of_ble_eq_true rfl) (ls' := [(2, ((272 : Nat) : Int)), (2, (((5 + 89 * 0) : Nat) : Int)), (0, ((e : Nat) : Int)), (0, ((l : Nat) : Int)), (0, dg), (0, ((k : Nat) : Int)), (2, (((78 + 89 * 0 + 4 * k) : Nat) : Int)), (2, (((274 + e) : Nat) : Int)), (2, (((274 + (e + 1)) : Nat) : Int)), (0, 0)]) rfl ?_
                have lp9 : ∀ r : Nat, r ≤ nR m k → ∀ (u3 : xD), (Gx e t u3) → (∀ q, q < nN m → u3 (274 + e + 1) q = gR m k f r q) → (ac5 u3 (fold4 (sC m a w set n' l f dg) k (startC m a w set l f dg A))) → xOk (D + (n' + 1) + 5) 23 106 [(2, ((272 : Nat) : Int)), (2, (((5 + 89 * 0) : Nat) : Int)), (0, ((e : Nat) : Int)), (0, ((l : Nat) : Int)), (0, dg), (0, ((k : Nat) : Int)), (2, (((78 + 89 * 0 + 4 * k) : Nat) : Int)), (2, (((274 + e) : Nat) : Int)), (2, (((274 + (e + 1)) : Nat) : Int)), (0, ((r : Nat) : Int))] [] g u3 (gQ e (n' + 1) l set f dg a w A m g t) := by
                  refine xk_up (nR m k) (fun r hkr ih9  u3 h3_1 h3_2 h3_3 => ?_)
                  have hk_ : 0 < m 300 k := hB k (by omega) (by assumption)
                  have iR0_ := iRn hI (show k < 4 by omega)
                  refine xk_load rfl (p := 108) rfl rfl ?_
                  refine xk_load rfl (p := 110) rfl rfl ?_
                  refine xk_getf rfl (p := 113) rfl (xob ((ly_dl L hs (show k < 4 by omega)).1) (by decide)) (v := (0, ((nR m k : Nat) : Int))) (xsl0 rfl ((rRow (hR.gx hI h3_1) (show k < 4 by omega) (show 0 < m 300 k by omega)).trans (iRn hI (show k < 4 by omega)).1)) ?_
                  have iRn_ := iRn hI (show k < 4 by omega)
                  refine xk_icmp rfl (p := 116) rfl (fun c113_10 => ?_) (fun c113_10 => ?_)
                  · replace c113_10 : ((nR m k : Nat) : Int) ≤ ((r : Nat) : Int) := c113_10
                    refine xk_load rfl (p := 142) rfl rfl ?_
                    refine xk_load rfl (p := 143) rfl rfl ?_
                    refine xk_load rfl (p := 144) rfl rfl ?_
                    refine xk_push rfl (p := 145) rfl ?_
                    refine xk_bin rfl (p := 146) rfl (z := ((e + 1 : Nat) : Int)) (congrArg some (xadd_n (n := e) (m := 1) (by omega))) ?_
                    refine xk_load rfl (p := 147) rfl rfl ?_
                    refine xk_push rfl (p := 148) rfl ?_
                    refine xk_load rfl (p := 150) rfl rfl ?_
                    refine xk_bin rfl (p := 151) rfl (z := ((2 ^ k : Nat) : Int)) (congrArg some (xshl_n (by omega))) ?_
                    refine xk_push rfl (p := 152) rfl ?_
                    refine xk_bin rfl (p := 153) rfl (z := xxor ((2 ^ k : Nat) : Int) (-1)) (rfl) ?_
                    refine xk_bin rfl (p := 154) rfl (z := ((xdf l (2 ^ k) : Nat) : Int)) (congrArg some (xandn_s (by omega) (p12 (by omega)))) ?_
                    refine xk_load rfl (p := 156) rfl rfl ?_
                    refine xk_push rfl (p := 158) rfl ?_
                    refine xk_bin rfl (p := 159) rfl (z := xmul dg 10) (rfl) ?_
                    refine xk_load rfl (p := 161) rfl rfl ?_
                    refine xk_bin rfl (p := 162) rfl (z := xadd (xmul dg 10) ((k : Nat) : Int)) (rfl) ?_
                    refine xk_push rfl (p := 163) rfl ?_
                    refine xk_bin rfl (p := 164) rfl (z := xadd (xadd (xmul dg 10) ((k : Nat) : Int)) 1) (rfl) ?_
                    have pc_ := pc4_st (d := k) hl (by omega) (by assumption)
                    have bd_ : (fold4 (sC m a w set n' l f dg) k (startC m a w set l f dg A)).2 < 4096 := fold4_lt (by omega) (by unfold startC; split <;> exact nGo_lt h2 (by omega)) k (by omega)
                    refine xk_call rfl (p := 167) rfl (by decide) rfl (Nat.le_of_ble_eq_true rfl) (Nat.le_of_ble_eq_true rfl) (rfl) (as := [(2, ((272 : Nat) : Int)), (2, (((5 + 89 * 0) : Nat) : Int)), (0, ((e + 1 : Nat) : Int)), (0, ((xdf l (2 ^ k) : Nat) : Int)), (0, xadd (xadd (xmul dg 10) ((k : Nat) : Int)) 1)]) (r := []) rfl (IH n' rfl D (xdf l (2 ^ k)) (e + 1) set (fUp m k f) _ a w _ g u3 m L (hR.gx hI h3_1) hI (by omega) pc_.1 (by omega) hset haa (fun x hx hb => hB x hx (pc_.2.2 x hx hb)) (fun q hq => by rw [show 274 + (e + 1) = 274 + e + 1 by omega, h3_2 q hq, show r = nR m k by omega, gR_e]) h3_3 bd_ ((h3_1 272 1 (by omega)).trans hS) ((h3_1 272 2 (by omega)).trans ha) ((h3_1 272 3 (by omega)).trans hw)) ?_
                    rintro _ g y4 ⟨rfl, rfl, hx4, hy4⟩
                    refine xk_inc1 rfl (p := 170) rfl (n := k) rfl (by omega) (ls' := [(2, ((272 : Nat) : Int)), (2, (((5 + 89 * 0) : Nat) : Int)), (0, ((e : Nat) : Int)), (0, ((l : Nat) : Int)), (0, dg), (0, ((k + 1 : Nat) : Int)), (2, (((78 + 89 * 0 + 4 * k) : Nat) : Int)), (2, (((274 + e) : Nat) : Int)), (2, (((274 + (e + 1)) : Nat) : Int)), (0, ((r : Nat) : Int))]) rfl ?_
                    refine xk_goto rfl ?_
                    exact ih4 (by omega) (2, (((78 + 89 * 0 + 4 * k) : Nat) : Int)) (2, (((274 + e) : Nat) : Int)) (2, (((274 + (e + 1)) : Nat) : Int)) (0, ((r : Nat) : Int)) y4 (by exact h3_1.tr hx4.dn) (by show ac5 y4 (sC m a w set n' l f dg k (fold4 (sC m a w set n' l f dg) k (startC m a w set l f dg A))); rw [sC_y ⟨by assumption, go_.mp (by assumption)⟩, xmul_cm (x := 10) (y := dg)]; exact hy4)
                  · replace c113_10 : ¬ (((nR m k : Nat) : Int) ≤ ((r : Nat) : Int)) := c113_10
                    refine xk_load rfl (p := 118) rfl rfl ?_
                    refine xk_load rfl (p := 120) rfl rfl ?_
                    refine xk_getf rfl (p := 123) rfl (xob ((ly_dl L hs (show k < 4 by omega)).1) (by decide)) (v := (2, ((((78 + 89 * 0 + 4 * k) + 1) : Nat) : Int))) (xsl2 rfl ((ly_dl L hs (show k < 4 by omega)).2.2.2.2.1)) ?_
                    refine xk_load rfl (p := 125) rfl rfl ?_
                    refine xk_ald rfl (p := 126) rfl (v := (0, m 303 (12 * k + r))) ((xal0 ((ly_dl L hs (show k < 4 by omega)).2.1) (show r < 4 by omega)).trans (congrArg (fun z => some (0, z)) (rR1 (hR.gx hI h3_1) (show k < 4 by omega) (show 0 < m 300 k by omega) (show ((r : Nat) : Int) < m 301 k by omega)))) ?_
                    have iRo_ := iRo hI (show k < 4 by omega) (show 0 < m 300 k by omega) (show r < nR m k by omega)
                    refine xk_load rfl (p := 128) rfl rfl ?_
                    refine xk_getf rfl (p := 131) rfl (xob ((ly_dl L hs (show k < 4 by omega)).1) (by decide)) (v := (2, ((((78 + 89 * 0 + 4 * k) + 3) : Nat) : Int))) (xsl2 rfl ((ly_dl L hs (show k < 4 by omega)).2.2.2.2.2.2)) ?_
                    refine xk_load rfl (p := 133) rfl rfl ?_
                    refine xk_ald rfl (p := 134) rfl (v := (0, m 303 (12 * k + 8 + r))) ((xal0 ((ly_dl L hs (show k < 4 by omega)).2.2.2.1) (show r < 4 by omega)).trans (congrArg (fun z => some (0, z)) (rR3 (hR.gx hI h3_1) (show k < 4 by omega) (show 0 < m 300 k by omega) (show ((r : Nat) : Int) < m 301 k by omega)))) ?_
                    refine xk_asti rfl (p := 135) rfl (show 0 ≤ m 303 (12 * k + r) by omega) (by decide) rfl (xsk (ly_oi L (show e + 1 < 5 by omega))) (xsn (ly_oi L (show e + 1 < 5 by omega)) (show (m 303 (12 * k + r)).toNat < 12 by omega)) (by omega) ?_
                    refine xk_inc1 rfl (p := 138) rfl (n := r) rfl (by omega) (ls' := [(2, ((272 : Nat) : Int)), (2, (((5 + 89 * 0) : Nat) : Int)), (0, ((e : Nat) : Int)), (0, ((l : Nat) : Int)), (0, dg), (0, ((k : Nat) : Int)), (2, (((78 + 89 * 0 + 4 * k) : Nat) : Int)), (2, (((274 + e) : Nat) : Int)), (2, (((274 + (e + 1)) : Nat) : Int)), (0, ((r + 1 : Nat) : Int))]) rfl ?_
                    refine xk_goto rfl ?_
                    exact ih9 (by omega)  (xupd u3 (274 + (e + 1)) ((m 303 (12 * k + r)).toNat) (m 303 (12 * k + 8 + r))) (by exact h3_1.tr (fun b j hh => xupd_ne (by omega))) (by exact fun q hq => by rw [gR_s hI (by omega) (hB k (by omega) (by assumption)) (by omega)]; exact dite (m 303 (12 * k + r) = ((q : Nat) : Int)) (fun cq => by rw [if_pos cq, show q = (m 303 (12 * k + r)).toNat by omega]; exact xupd_eq) (fun cq => by rw [if_neg cq]; exact (xupd_ne (by omega)).trans (h3_2 q hq))) (by exact h3_3.fr (fun j h1 h2 => xupd_ne (by omega)))
                exact lp9 0 (by omega)  (xcpy u1 (274 + e) 0 (274 + (e + 1)) 0 12) (by exact h1_1.tr (fun b j hh => xcpy_ne (by omega))) (by exact fun q hq => (xcpy_eq (by omega)).trans (by rw [gR_0, show 0 + (q - 0) = q by omega]; exact (h1_1 _ _ (by omega)).trans (hf q hq))) (by exact h1_2.fr (fun j h1 h2 => xcpy_ne (by omega)))
      exact lp4 0 (by omega) (3, 0) (3, 0) (3, 0) (3, 0) y1 (by exact gs_) (by exact st_)
  · replace c13_1 : ((l : Nat) : Int) = 0 := Decidable.not_not.mp c13_1
    refine xk_load rfl (p := 17) rfl rfl ?_
    refine xk_load rfl (p := 18) rfl rfl ?_
    refine xk_load rfl (p := 19) rfl rfl ?_
    refine xk_getf rfl (p := 22) rfl (xob (ly_o L) (by decide)) (v := (2, ((273 : Nat) : Int))) (xsl2 rfl (ly_o0 L)) ?_
    refine xk_load rfl (p := 23) rfl rfl ?_
    refine xk_ald rfl (p := 24) rfl (v := (2, (((274 + e) : Nat) : Int))) (xal2 (ly_oo L) (by decide) (show e < 5 by omega) (ly_oe L (show e < 5 by omega))) ?_
    refine xk_load rfl (p := 26) rfl rfl ?_
    have gy1_ : Gx e t y1 := fun b j hh => fy1 b j (by omega)
    refine xk_call rfl (p := 29) rfl (by decide) rfl (Nat.le_of_ble_eq_true rfl) (Nat.le_of_ble_eq_true rfl) (xrv (ly_o L) (by decide)) (as := [(2, ((272 : Nat) : Int)), (2, (((5 + 89 * 0) : Nat) : Int)), (2, (((274 + e) : Nat) : Int)), (0, dg)]) (r := []) rfl (c_noteOrder (e := e) (f := f) (dg := dg) (a := a) (w := w) (A := nGo set l A) L hI (hR.gx hI gy1_) (by omega) (fun q hq => (fy1 _ _ (by omega)).trans (hf q hq)) hy1 ((fy1 272 2 (by omega)).trans ha) ((fy1 272 3 (by omega)).trans hw) haa) ?_
    rintro _ g y2 ⟨rfl, rfl, hy2, fy2⟩
    have st_ : ac5 y2 (startC m a w set l f dg A) := by
      have e0 : l = 0 := by omega
      unfold startC
      rw [if_pos e0]
      exact hy2
    have gs_ : Gx e t y2 := fun b j hh => (fy2 b j (by omega)).trans (fy1 b j (by omega))
    obtain rfl | ⟨n', rfl⟩ := PG_split n
    · skip
      refine xk_push rfl (p := 30) rfl ?_
      refine xk_store rfl (p := 32) rfl (by decide) (Nat.le_of_ble_eq_true rfl) (ls' := [(2, ((272 : Nat) : Int)), (2, (((5 + 89 * 0) : Nat) : Int)), (0, ((e : Nat) : Int)), (0, ((l : Nat) : Int)), (0, dg), (0, 0), (3, 0), (3, 0), (3, 0), (3, 0)]) rfl ?_
      refine xk_load rfl (p := 34) rfl rfl ?_
      refine xk_push rfl (p := 35) rfl ?_
      refine xk_icmp rfl (p := 38) rfl (fun c35_11 => absurd c35_11 (show ¬ ((4 : Int) ≤ (0 : Int)) by decide)) (fun c35_11 => ?_)
      refine xk_load rfl (p := 39) rfl rfl ?_
      refine xk_push rfl (p := 40) rfl ?_
      refine xk_icmp rfl (p := 43) rfl (fun c40_12 => ?_) (fun c40_12 => ?_)
      · replace c40_12 : 4 ≤ ((e : Nat) : Int) := c40_12
        refine xk_ret rfl (rfl) ?_
        exact ⟨rfl, rfl, gs_, st_⟩
      · replace c40_12 : ¬ (4 ≤ ((e : Nat) : Int)) := c40_12
        exfalso; omega
    · skip
      refine xk_push rfl (p := 30) rfl ?_
      refine xk_store rfl (p := 32) rfl (by decide) (Nat.le_of_ble_eq_true rfl) (ls' := [(2, ((272 : Nat) : Int)), (2, (((5 + 89 * 0) : Nat) : Int)), (0, ((e : Nat) : Int)), (0, ((l : Nat) : Int)), (0, dg), (0, 0), (3, 0), (3, 0), (3, 0), (3, 0)]) rfl ?_
      have lp13 : ∀ k : Nat, k ≤ 4 → ∀ (w6 : xV) (w7 : xV) (w8 : xV) (w9 : xV) (u1 : xD), (Gx e t u1) → (ac5 u1 (fold4 (sC m a w set n' l f dg) k (startC m a w set l f dg A))) → xOk (D + (n' + 1) + 5) 23 32 [(2, ((272 : Nat) : Int)), (2, (((5 + 89 * 0) : Nat) : Int)), (0, ((e : Nat) : Int)), (0, ((l : Nat) : Int)), (0, dg), (0, ((k : Nat) : Int)), w6, w7, w8, w9] [] g u1 (gQ e (n' + 1) l set f dg a w A m g t) := by
        refine xk_up 4 (fun k hkk ih13  w6 w7 w8 w9 u1 h1_1 h1_2 => ?_)
        refine xk_load rfl (p := 34) rfl rfl ?_
        refine xk_push rfl (p := 35) rfl ?_
        refine xk_icmp rfl (p := 38) rfl (fun c35_14 => ?_) (fun c35_14 => ?_)
        · replace c35_14 : 4 ≤ ((k : Nat) : Int) := c35_14
          refine xk_ret rfl (rfl) ?_
          rw [show k = 4 by omega] at h1_2
          exact ⟨rfl, rfl, h1_1, h1_2⟩
        · replace c35_14 : ¬ (4 ≤ ((k : Nat) : Int)) := c35_14
          refine xk_load rfl (p := 39) rfl rfl ?_
          refine xk_push rfl (p := 40) rfl ?_
          refine xk_icmp rfl (p := 43) rfl (fun c40_15 => ?_) (fun c40_15 => ?_)
          · replace c40_15 : 4 ≤ ((e : Nat) : Int) := c40_15
            exfalso; omega
          · replace c40_15 : ¬ (4 ≤ ((e : Nat) : Int)) := c40_15
            refine xk_load rfl (p := 44) rfl rfl ?_
            refine xk_getf rfl (p := 47) rfl (xob (ly_st L hs) (by decide)) (v := (2, (((7 + 89 * 0) : Nat) : Int))) (xsl2 rfl (ly_s1 L hs)) ?_
            refine xk_load rfl (p := 49) rfl rfl ?_
            refine xk_ald rfl (p := 50) rfl (v := (2, (((78 + 89 * 0 + 4 * k) : Nat) : Int))) (xal2 (ly_sd L hs) (by decide) (show k < 4 by omega) (ly_de L hs (show k < 4 by omega))) ?_
            refine xk_store rfl (p := 52) rfl (by decide) (Nat.le_of_ble_eq_true rfl) (ls' := [(2, ((272 : Nat) : Int)), (2, (((5 + 89 * 0) : Nat) : Int)), (0, ((e : Nat) : Int)), (0, ((l : Nat) : Int)), (0, dg), (0, ((k : Nat) : Int)), (2, (((78 + 89 * 0 + 4 * k) : Nat) : Int)), w7, w8, w9]) rfl ?_
            refine xk_load rfl (p := 53) rfl rfl ?_
            refine xk_getf rfl (p := 56) rfl (xob (ly_o L) (by decide)) (v := (2, ((273 : Nat) : Int))) (xsl2 rfl (ly_o0 L)) ?_
            refine xk_load rfl (p := 57) rfl rfl ?_
            refine xk_ald rfl (p := 58) rfl (v := (2, (((274 + e) : Nat) : Int))) (xal2 (ly_oo L) (by decide) (show e < 5 by omega) (ly_oe L (show e < 5 by omega))) ?_
            refine xk_store rfl (p := 60) rfl (by decide) (Nat.le_of_ble_eq_true rfl) (ls' := [(2, ((272 : Nat) : Int)), (2, (((5 + 89 * 0) : Nat) : Int)), (0, ((e : Nat) : Int)), (0, ((l : Nat) : Int)), (0, dg), (0, ((k : Nat) : Int)), (2, (((78 + 89 * 0 + 4 * k) : Nat) : Int)), (2, (((274 + e) : Nat) : Int)), w8, w9]) rfl ?_
            refine xk_load rfl (p := 61) rfl rfl ?_
            refine xk_load rfl (p := 63) rfl rfl ?_
            refine xk_bin rfl (p := 64) rfl (z := xshr ((l : Nat) : Int) ((k : Nat) : Int)) (rfl) ?_
            refine xk_push rfl (p := 65) rfl ?_
            refine xk_bin rfl (p := 66) rfl (z := (if l.testBit k = true then (1 : Int) else 0)) (congrArg some (xbit_t (by omega) (by omega))) ?_
            refine xk_if rfl (p := 69) rfl (fun c66_16 => ?_) (fun c66_16 => ?_)
            · replace c66_16 : ¬ (l.testBit k = true) := xb_e0 c66_16
              refine xk_inc1 rfl (p := 170) rfl (n := k) rfl (by omega) (ls' := [(2, ((272 : Nat) : Int)), (2, (((5 + 89 * 0) : Nat) : Int)), (0, ((e : Nat) : Int)), (0, ((l : Nat) : Int)), (0, dg), (0, ((k + 1 : Nat) : Int)), (2, (((78 + 89 * 0 + 4 * k) : Nat) : Int)), (2, (((274 + e) : Nat) : Int)), w8, w9]) rfl ?_
              refine xk_goto rfl ?_
              exact ih13 (by omega) (2, (((78 + 89 * 0 + 4 * k) : Nat) : Int)) (2, (((274 + e) : Nat) : Int)) w8 w9 u1 (by exact h1_1) (by show ac5 u1 (sC m a w set n' l f dg k (fold4 (sC m a w set n' l f dg) k (startC m a w set l f dg A))); rw [sC_n (fun h => by obtain ⟨x1, x2⟩ := h; first | contradiction | exact absurd (go_.mpr x2) (by assumption))]; exact h1_2)
            · replace c66_16 : l.testBit k = true := xb_n0 c66_16
              refine xk_load rfl (p := 70) rfl rfl ?_
              refine xk_load rfl (p := 72) rfl rfl ?_
              refine xk_load rfl (p := 74) rfl rfl ?_
              refine xk_push rfl (p := 75) rfl ?_
              refine xk_push rfl (p := 76) rfl ?_
              refine xk_callp rfl (p := 79) rfl (by decide) rfl (Nat.le_of_ble_eq_true rfl) (Nat.le_of_ble_eq_true rfl) (xrv (ly_st L hs) (by decide)) (as := [(2, (((5 + 89 * 0) : Nat) : Int)), (2, (((78 + 89 * 0 + 4 * k) : Nat) : Int)), (2, (((274 + e) : Nat) : Int)), (0, ((0 : Nat) : Int)), (0, ((0 : Nat) : Int))]) (r := []) rfl (v := (0, wF (wB m k f 0 (nThere m k f 0)) (nR m k))) (c_wrongBy L hs hI (hR.gx hI h1_1) (show k < 4 by omega) (hB k (by omega) (by assumption)) (ly_oi L (show e < 5 by omega)) (fun q hq => (h1_1 _ _ (by omega)).trans (hf q hq)) (by decide) (by decide)) ?_
              have go_ := bGo_wB (f := f) hI (show k < 4 by omega) (hB k (by omega) (by assumption))
              refine xk_if rfl (p := 82) rfl (fun c79_17 => ?_) (fun c79_17 => ?_)
              · replace c79_17 : ¬ (wF (wB m k f 0 (nThere m k f 0)) (nR m k) = 0) := c79_17
                refine xk_inc1 rfl (p := 170) rfl (n := k) rfl (by omega) (ls' := [(2, ((272 : Nat) : Int)), (2, (((5 + 89 * 0) : Nat) : Int)), (0, ((e : Nat) : Int)), (0, ((l : Nat) : Int)), (0, dg), (0, ((k + 1 : Nat) : Int)), (2, (((78 + 89 * 0 + 4 * k) : Nat) : Int)), (2, (((274 + e) : Nat) : Int)), w8, w9]) rfl ?_
                refine xk_goto rfl ?_
                exact ih13 (by omega) (2, (((78 + 89 * 0 + 4 * k) : Nat) : Int)) (2, (((274 + e) : Nat) : Int)) w8 w9 u1 (by exact h1_1) (by show ac5 u1 (sC m a w set n' l f dg k (fold4 (sC m a w set n' l f dg) k (startC m a w set l f dg A))); rw [sC_n (fun h => by obtain ⟨x1, x2⟩ := h; first | contradiction | exact absurd (go_.mpr x2) (by assumption))]; exact h1_2)
              · replace c79_17 : wF (wB m k f 0 (nThere m k f 0)) (nR m k) = 0 := Decidable.not_not.mp c79_17
                refine xk_load rfl (p := 83) rfl rfl ?_
                refine xk_getf rfl (p := 86) rfl (xob (ly_o L) (by decide)) (v := (2, ((273 : Nat) : Int))) (xsl2 rfl (ly_o0 L)) ?_
                refine xk_load rfl (p := 87) rfl rfl ?_
                refine xk_push rfl (p := 88) rfl ?_
                refine xk_bin rfl (p := 89) rfl (z := ((e + 1 : Nat) : Int)) (congrArg some (xadd_n (n := e) (m := 1) (by omega))) ?_
                refine xk_ald rfl (p := 90) rfl (v := (2, (((274 + (e + 1)) : Nat) : Int))) (xal2 (ly_oo L) (by decide) (show e + 1 < 5 by omega) (ly_oe L (show e + 1 < 5 by omega))) ?_
                refine xk_store rfl (p := 92) rfl (by decide) (Nat.le_of_ble_eq_true rfl) (ls' := [(2, ((272 : Nat) : Int)), (2, (((5 + 89 * 0) : Nat) : Int)), (0, ((e : Nat) : Int)), (0, ((l : Nat) : Int)), (0, dg), (0, ((k : Nat) : Int)), (2, (((78 + 89 * 0 + 4 * k) : Nat) : Int)), (2, (((274 + e) : Nat) : Int)), (2, (((274 + (e + 1)) : Nat) : Int)), w9]) rfl ?_
                refine xk_load rfl (p := 94) rfl rfl ?_
                refine xk_push rfl (p := 95) rfl ?_
                refine xk_load rfl (p := 97) rfl rfl ?_
                refine xk_push rfl (p := 98) rfl ?_
                refine xk_push rfl (p := 100) rfl ?_
                refine xk_cpy (n := 12) (dp := 0) (sp := 0) rfl (p := 103) rfl (Nat.le_of_ble_eq_true rfl) (by omega) (by omega) (by decide) (ly_oi L (show e + 1 < 5 by omega)) (ly_oi L (show e < 5 by omega)) (by omega) (by omega) (by omega) (by omega) ?_
                refine xk_push rfl (p := 104) rfl ?_
                refine xk_store rfl (p := 106) rfl (by decide) (Nat.le_of_ble_eq_true rfl) (ls' := [(2, ((272 : Nat) : Int)), (2, (((5 + 89 * 0) : Nat) : Int)), (0, ((e : Nat) : Int)), (0, ((l : Nat) : Int)), (0, dg), (0, ((k : Nat) : Int)), (2, (((78 + 89 * 0 + 4 * k) : Nat) : Int)), (2, (((274 + e) : Nat) : Int)), (2, (((274 + (e + 1)) : Nat) : Int)), (0, 0)]) rfl ?_
                have lp18 : ∀ r : Nat, r ≤ nR m k → ∀ (u3 : xD), (Gx e t u3) → (∀ q, q < nN m → u3 (274 + e + 1) q = gR m k f r q) → (ac5 u3 (fold4 (sC m a w set n' l f dg) k (startC m a w set l f dg A))) → xOk (D + (n' + 1) + 5) 23 106 [(2, ((272 : Nat) : Int)), (2, (((5 + 89 * 0) : Nat) : Int)), (0, ((e : Nat) : Int)), (0, ((l : Nat) : Int)), (0, dg), (0, ((k : Nat) : Int)), (2, (((78 + 89 * 0 + 4 * k) : Nat) : Int)), (2, (((274 + e) : Nat) : Int)), (2, (((274 + (e + 1)) : Nat) : Int)), (0, ((r : Nat) : Int))] [] g u3 (gQ e (n' + 1) l set f dg a w A m g t) := by
                  refine xk_up (nR m k) (fun r hkr ih18  u3 h3_1 h3_2 h3_3 => ?_)
                  have hk_ : 0 < m 300 k := hB k (by omega) (by assumption)
                  have iR0_ := iRn hI (show k < 4 by omega)
                  refine xk_load rfl (p := 108) rfl rfl ?_
                  refine xk_load rfl (p := 110) rfl rfl ?_
                  refine xk_getf rfl (p := 113) rfl (xob ((ly_dl L hs (show k < 4 by omega)).1) (by decide)) (v := (0, ((nR m k : Nat) : Int))) (xsl0 rfl ((rRow (hR.gx hI h3_1) (show k < 4 by omega) (show 0 < m 300 k by omega)).trans (iRn hI (show k < 4 by omega)).1)) ?_
                  have iRn_ := iRn hI (show k < 4 by omega)
                  refine xk_icmp rfl (p := 116) rfl (fun c113_19 => ?_) (fun c113_19 => ?_)
                  · replace c113_19 : ((nR m k : Nat) : Int) ≤ ((r : Nat) : Int) := c113_19
                    refine xk_load rfl (p := 142) rfl rfl ?_
                    refine xk_load rfl (p := 143) rfl rfl ?_
                    refine xk_load rfl (p := 144) rfl rfl ?_
                    refine xk_push rfl (p := 145) rfl ?_
                    refine xk_bin rfl (p := 146) rfl (z := ((e + 1 : Nat) : Int)) (congrArg some (xadd_n (n := e) (m := 1) (by omega))) ?_
                    refine xk_load rfl (p := 147) rfl rfl ?_
                    refine xk_push rfl (p := 148) rfl ?_
                    refine xk_load rfl (p := 150) rfl rfl ?_
                    refine xk_bin rfl (p := 151) rfl (z := ((2 ^ k : Nat) : Int)) (congrArg some (xshl_n (by omega))) ?_
                    refine xk_push rfl (p := 152) rfl ?_
                    refine xk_bin rfl (p := 153) rfl (z := xxor ((2 ^ k : Nat) : Int) (-1)) (rfl) ?_
                    refine xk_bin rfl (p := 154) rfl (z := ((xdf l (2 ^ k) : Nat) : Int)) (congrArg some (xandn_s (by omega) (p12 (by omega)))) ?_
                    refine xk_load rfl (p := 156) rfl rfl ?_
                    refine xk_push rfl (p := 158) rfl ?_
                    refine xk_bin rfl (p := 159) rfl (z := xmul dg 10) (rfl) ?_
                    refine xk_load rfl (p := 161) rfl rfl ?_
                    refine xk_bin rfl (p := 162) rfl (z := xadd (xmul dg 10) ((k : Nat) : Int)) (rfl) ?_
                    refine xk_push rfl (p := 163) rfl ?_
                    refine xk_bin rfl (p := 164) rfl (z := xadd (xadd (xmul dg 10) ((k : Nat) : Int)) 1) (rfl) ?_
                    have pc_ := pc4_st (d := k) hl (by omega) (by assumption)
                    have bd_ : (fold4 (sC m a w set n' l f dg) k (startC m a w set l f dg A)).2 < 4096 := fold4_lt (by omega) (by unfold startC; split <;> exact nGo_lt h2 (by omega)) k (by omega)
                    refine xk_call rfl (p := 167) rfl (by decide) rfl (Nat.le_of_ble_eq_true rfl) (Nat.le_of_ble_eq_true rfl) (rfl) (as := [(2, ((272 : Nat) : Int)), (2, (((5 + 89 * 0) : Nat) : Int)), (0, ((e + 1 : Nat) : Int)), (0, ((xdf l (2 ^ k) : Nat) : Int)), (0, xadd (xadd (xmul dg 10) ((k : Nat) : Int)) 1)]) (r := []) rfl (IH n' rfl D (xdf l (2 ^ k)) (e + 1) set (fUp m k f) _ a w _ g u3 m L (hR.gx hI h3_1) hI (by omega) pc_.1 (by omega) hset haa (fun x hx hb => hB x hx (pc_.2.2 x hx hb)) (fun q hq => by rw [show 274 + (e + 1) = 274 + e + 1 by omega, h3_2 q hq, show r = nR m k by omega, gR_e]) h3_3 bd_ ((h3_1 272 1 (by omega)).trans hS) ((h3_1 272 2 (by omega)).trans ha) ((h3_1 272 3 (by omega)).trans hw)) ?_
                    rintro _ g y4 ⟨rfl, rfl, hx4, hy4⟩
                    refine xk_inc1 rfl (p := 170) rfl (n := k) rfl (by omega) (ls' := [(2, ((272 : Nat) : Int)), (2, (((5 + 89 * 0) : Nat) : Int)), (0, ((e : Nat) : Int)), (0, ((l : Nat) : Int)), (0, dg), (0, ((k + 1 : Nat) : Int)), (2, (((78 + 89 * 0 + 4 * k) : Nat) : Int)), (2, (((274 + e) : Nat) : Int)), (2, (((274 + (e + 1)) : Nat) : Int)), (0, ((r : Nat) : Int))]) rfl ?_
                    refine xk_goto rfl ?_
                    exact ih13 (by omega) (2, (((78 + 89 * 0 + 4 * k) : Nat) : Int)) (2, (((274 + e) : Nat) : Int)) (2, (((274 + (e + 1)) : Nat) : Int)) (0, ((r : Nat) : Int)) y4 (by exact h3_1.tr hx4.dn) (by show ac5 y4 (sC m a w set n' l f dg k (fold4 (sC m a w set n' l f dg) k (startC m a w set l f dg A))); rw [sC_y ⟨by assumption, go_.mp (by assumption)⟩, xmul_cm (x := 10) (y := dg)]; exact hy4)
                  · replace c113_19 : ¬ (((nR m k : Nat) : Int) ≤ ((r : Nat) : Int)) := c113_19
                    refine xk_load rfl (p := 118) rfl rfl ?_
                    refine xk_load rfl (p := 120) rfl rfl ?_
                    refine xk_getf rfl (p := 123) rfl (xob ((ly_dl L hs (show k < 4 by omega)).1) (by decide)) (v := (2, ((((78 + 89 * 0 + 4 * k) + 1) : Nat) : Int))) (xsl2 rfl ((ly_dl L hs (show k < 4 by omega)).2.2.2.2.1)) ?_
                    refine xk_load rfl (p := 125) rfl rfl ?_
                    refine xk_ald rfl (p := 126) rfl (v := (0, m 303 (12 * k + r))) ((xal0 ((ly_dl L hs (show k < 4 by omega)).2.1) (show r < 4 by omega)).trans (congrArg (fun z => some (0, z)) (rR1 (hR.gx hI h3_1) (show k < 4 by omega) (show 0 < m 300 k by omega) (show ((r : Nat) : Int) < m 301 k by omega)))) ?_
                    have iRo_ := iRo hI (show k < 4 by omega) (show 0 < m 300 k by omega) (show r < nR m k by omega)
                    refine xk_load rfl (p := 128) rfl rfl ?_
                    refine xk_getf rfl (p := 131) rfl (xob ((ly_dl L hs (show k < 4 by omega)).1) (by decide)) (v := (2, ((((78 + 89 * 0 + 4 * k) + 3) : Nat) : Int))) (xsl2 rfl ((ly_dl L hs (show k < 4 by omega)).2.2.2.2.2.2)) ?_
                    refine xk_load rfl (p := 133) rfl rfl ?_
                    refine xk_ald rfl (p := 134) rfl (v := (0, m 303 (12 * k + 8 + r))) ((xal0 ((ly_dl L hs (show k < 4 by omega)).2.2.2.1) (show r < 4 by omega)).trans (congrArg (fun z => some (0, z)) (rR3 (hR.gx hI h3_1) (show k < 4 by omega) (show 0 < m 300 k by omega) (show ((r : Nat) : Int) < m 301 k by omega)))) ?_
                    refine xk_asti rfl (p := 135) rfl (show 0 ≤ m 303 (12 * k + r) by omega) (by decide) rfl (xsk (ly_oi L (show e + 1 < 5 by omega))) (xsn (ly_oi L (show e + 1 < 5 by omega)) (show (m 303 (12 * k + r)).toNat < 12 by omega)) (by omega) ?_
                    refine xk_inc1 rfl (p := 138) rfl (n := r) rfl (by omega) (ls' := [(2, ((272 : Nat) : Int)), (2, (((5 + 89 * 0) : Nat) : Int)), (0, ((e : Nat) : Int)), (0, ((l : Nat) : Int)), (0, dg), (0, ((k : Nat) : Int)), (2, (((78 + 89 * 0 + 4 * k) : Nat) : Int)), (2, (((274 + e) : Nat) : Int)), (2, (((274 + (e + 1)) : Nat) : Int)), (0, ((r + 1 : Nat) : Int))]) rfl ?_
                    refine xk_goto rfl ?_
                    exact ih18 (by omega)  (xupd u3 (274 + (e + 1)) ((m 303 (12 * k + r)).toNat) (m 303 (12 * k + 8 + r))) (by exact h3_1.tr (fun b j hh => xupd_ne (by omega))) (by exact fun q hq => by rw [gR_s hI (by omega) (hB k (by omega) (by assumption)) (by omega)]; exact dite (m 303 (12 * k + r) = ((q : Nat) : Int)) (fun cq => by rw [if_pos cq, show q = (m 303 (12 * k + r)).toNat by omega]; exact xupd_eq) (fun cq => by rw [if_neg cq]; exact (xupd_ne (by omega)).trans (h3_2 q hq))) (by exact h3_3.fr (fun j h1 h2 => xupd_ne (by omega)))
                exact lp18 0 (by omega)  (xcpy u1 (274 + e) 0 (274 + (e + 1)) 0 12) (by exact h1_1.tr (fun b j hh => xcpy_ne (by omega))) (by exact fun q hq => (xcpy_eq (by omega)).trans (by rw [gR_0, show 0 + (q - 0) = q by omega]; exact (h1_1 _ _ (by omega)).trans (hf q hq))) (by exact h1_2.fr (fun j h1 h2 => xcpy_ne (by omega)))
      exact lp13 0 (by omega) (3, 0) (3, 0) (3, 0) (3, 0) y2 (by exact gs_) (by exact st_)

theorem c_letGo : ∀ n, PG n
  | 0 => fun D l e set f dg a w A g t m L hR hI h1 h2 h3 h4 h5 h6 h7 h8 h9 h10 h11 h12 => c_letGo_s (fun n' h => by cases h) L hR hI h1 h2 h3 h4 h5 h6 h7 h8 h9 h10 h11 h12
  | n + 1 => fun D l e set f dg a w A g t m L hR hI h1 h2 h3 h4 h5 h6 h7 h8 h9 h10 h11 h12 => c_letGo_s (fun n' h => by cases h; exact c_letGo n) L hR hI h1 h2 h3 h4 h5 h6 h7 h8 h9 h10 h11 h12