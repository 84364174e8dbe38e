/-! THE MODEL: ORDERS -/
/-- a row's name would clash, by what is there -/
def bBd (m : xD) (d : Nat) (f : Nat → Int) (r q : Nat) : Bool := decide (¬ m 303 (12 * d + 8 + r) = 0 ∧ bCla m (m 303 (12 * d + r)).toNat q = true ∧ ((sRow m d ((q : Nat) : Int) = -1 ∧ ¬ f q = 0) ∨ (¬ sRow m d ((q : Nat) : Int) = -1 ∧ ¬ m 303 (12 * d + 8 + (sRow m d ((q : Nat) : Int)).toNat) = 0)))
theorem bBd_iff {m : xD} {d : Nat} {f : Nat → Int} {r q : Nat} : bBd m d f r q = true ↔ (¬ m 303 (12 * d + 8 + r) = 0 ∧ bCla m (m 303 (12 * d + r)).toNat q = true ∧ ((sRow m d ((q : Nat) : Int) = -1 ∧ ¬ f q = 0) ∨ (¬ sRow m d ((q : Nat) : Int) = -1 ∧ ¬ m 303 (12 * d + 8 + (sRow m d ((q : Nat) : Int)).toNat) = 0))) := decide_eq_true_iff
/-- the row keeps the deal from going -/
def bNo (m : xD) (d : Nat) (f : Nat → Int) (r : Nat) : Bool := decide (sAsk m d r (f (m 303 (12 * d + r)).toNat) = 0) || xexb (fun q => decide (bBd m d f r q = true)) (nN m)
def bGo (m : xD) (d : Nat) (f : Nat → Int) : Bool := !xexb (fun r => decide (bNo m d f r = true)) (nR m d)
theorem bGo_y {m : xD} {d : Nat} {f : Nat → Int} (h : ∀ r, r < nR m d → ¬ bNo m d f r = true) : bGo m d f = true := by
  unfold bGo
  have := xexf0 (P := fun r => bNo m d f r = true) (Nat.le_refl (nR m d)) h
  simp only [Bool.not_eq_true] at this
  rw [this]
  rfl
theorem bGo_n {m : xD} {d r : Nat} {f : Nat → Int} (hr : r < nR m d) (h : bNo m d f r = true) : ¬ bGo m d f = true := by
  unfold bGo
  have : xexb (fun r => decide (bNo m d f r = true)) (nR m d) = true := xexb_iff.mpr ⟨r, hr, decide_eq_true h⟩
  rw [this]
  simp
theorem bNo_a {m : xD} {d r : Nat} {f : Nat → Int} (h : sAsk m d r (f (m 303 (12 * d + r)).toNat) = 0) : bNo m d f r = true := by
  unfold bNo
  rw [decide_eq_true h, Bool.true_or]
theorem bNo_b {m : xD} {d r q : Nat} {f : Nat → Int} (hq : q < nN m) (h : bBd m d f r q = true) : bNo m d f r = true := by
  unfold bNo
  rw [xexb_iff.mpr ⟨q, hq, decide_eq_true h⟩, Bool.or_true]
theorem bNo_n {m : xD} {d r : Nat} {f : Nat → Int} (h : ¬ sAsk m d r (f (m 303 (12 * d + r)).toNat) = 0) (h2 : ∀ q, q < nN m → ¬ bBd m d f r q = true) : ¬ bNo m d f r = true := by
  unfold bNo
  rw [decide_eq_false h, Bool.false_or]
  exact xexf0 (P := fun q => bBd m d f r q = true) (Nat.le_refl (nN m)) h2
/-- what is there when the deal has gone -/
def fUp (m : xD) (d : Nat) (f : Nat → Int) : Nat → Int := fun n => if sRow m d ((n : Nat) : Int) = -1 then f n else m 303 (12 * d + 8 + (sRow m d ((n : Nat) : Int)).toNat)
/-- what is seen by hand fits -/
def bFit (m : xD) (f : Nat → Int) : Bool := !xexb (fun i => decide (¬ f (m 306 i).toNat = m 307 i)) (m 292 19).toNat
def fold4 {α : Type} (s : Nat → α → α) : Nat → α → α
  | 0, A => A
  | k + 1, A => s k (fold4 s k A)
/-- all orders: a walk -/
def exG {α : Type} (go : Nat → (Nat → Int) → Bool) (up : Nat → (Nat → Int) → Nat → Int) (node : Nat → α → α) (leaf : (Nat → Int) → Int → α → α) : Nat → Nat → (Nat → Int) → Int → α → α
  | 0, l, f, g, A => if l = 0 then leaf f g (node l A) else node l A
  | n + 1, l, f, g, A => fold4 (fun d B => if l.testBit d = true ∧ go d f = true then exG go up node leaf n (xdf l (2 ^ d)) (up d f) (xadd (xadd (xmul 10 g) ((d : Nat) : Int)) 1) B else B) 4 (if l = 0 then leaf f g (node l A) else node l A)
abbrev Acc : Type := Int × Int × Int × Int
/-- an order's end: many, like, found, first -/
def lfA (m : xD) (a w : Int) (f : Nat → Int) (g : Int) (A : Acc) : Acc := (xadd A.1 1, (if ¬ a = -1 ∧ f a.toNat = w then xadd A.2.1 1 else A.2.1), (if bFit m f = true then xadd A.2.2.1 1 else A.2.2.1), (if bFit m f = true ∧ A.2.2.1 = 0 then g else A.2.2.2))
def acc (m : xD) : Acc := (m 292 34, m 292 35, m 292 36, m 292 33)
def exA (m : xD) (a w : Int) : Nat → Nat → (Nat → Int) → Int → Acc → Acc := exG (bGo m) (fUp m) (fun _ A => A) (lfA m a w)
theorem exA_vi {m u : xD} {a w : Int} (h : vw m = vw u) : exA m a w = exA u a w := by
  show exG (bGo (vw m)) (fUp (vw m)) (fun _ A => A) (lfA (vw m) a w) = exG (bGo (vw u)) (fUp (vw u)) (fun _ A => A) (lfA (vw u) a w)
  rw [h]
theorem fold4_no {α : Type} {s : Nat → α → α} {A : α} (h : ∀ k B, k < 4 → s k B = B) : ∀ k, k ≤ 4 → fold4 s k A = A
  | 0, _ => rfl
  | k + 1, hk => by
    show s k (fold4 s k A) = A
    rw [h k _ (by omega), fold4_no h k (by omega)]
theorem exG_0 {α : Type} {go : Nat → (Nat → Int) → Bool} {up : Nat → (Nat → Int) → Nat → Int} {node : Nat → α → α} {leaf : (Nat → Int) → Int → α → α} {n : Nat} {f : Nat → Int} {g : Int} {A : α} : exG go up node leaf n 0 f g A = leaf f g (node 0 A) := by
  cases n with
  | zero => rfl
  | succ n =>
    show fold4 _ 4 _ = _
    rw [fold4_no (fun k B _ => if_neg (fun e => by rw [Nat.zero_testBit] at e; cases e.1)) 4 (Nat.le_refl 4)]
    rfl
/-- but the answers, and what is tried from so deep on, nothing has changed -/
def Sx (e : Nat) (m u : xD) : Prop := ∀ a k, ¬ ((a = 292 ∧ 33 ≤ k ∧ k ≤ 36) ∨ (a = 315 ∧ 12 * (e + 1) ≤ k)) → u a k = m a k
theorem Sx.rf {e : Nat} {m : xD} : Sx e m m := fun _ _ _ => rfl
theorem Sx.tr {e : Nat} {m u v : xD} (h1 : Sx e m u) (h2 : Sx e u v) : Sx e m v := fun a k h => (h2 a k h).trans (h1 a k h)
theorem Sx.dn {e : Nat} {m u : xD} (h : Sx (e + 1) m u) : Sx e m u := fun a k hh => h a k (by omega)
theorem Sx.up {e : Nat} {m u : xD} (h : Sx e m u) {a k : Nat} {x : Int} (hh : (a = 292 ∧ 33 ≤ k ∧ k ≤ 36) ∨ (a = 315 ∧ 12 * (e + 1) ≤ k)) : Sx e m (xupd u a k x) := fun b j hb => (xupd_ne (by omega)).trans (h b j hb)
theorem Sx.vi {e : Nat} {m u : xD} (h : Sx e m u) : vw m = vw u := by
  funext a k
  unfold vw
  by_cases c : (a = 292 ∧ 33 ≤ k ∧ k ≤ 36) ∨ (a = 315 ∧ 12 * (e + 1) ≤ k)
  · have : vis a k = false := by
      rcases c with ⟨rfl, h1, h2⟩ | ⟨rfl, h1⟩
      · rcases (by omega : k = 33 ∨ k = 34 ∨ k = 35 ∨ k = 36) with rfl | rfl | rfl | rfl <;> rfl
      · rfl
    rw [this]
    rfl
  · rw [h a k c]
theorem n_canGo {d : Nat} {g : xG} {t m : xD} {n e : Nat} {f : Nat → Int} (L : xLay g) (hM : Mo t m) (hI : Inv m) (hn : n < 4) (hk : 0 < m 300 n) (he : e ≤ 4) (hf : ∀ q, q < nN m → m 315 (12 * e + q) = f q) : xCall (d + 2) 170 [(2, ((292 : Nat) : Int)), (0, ((n : Nat) : Int)), (0, ((12 * e : Nat) : Int))] g t (xQ g t (some (0, if bGo m n f = true then (1 : Int) else 0))) := by
  show xOk (d + 2) 170 0 [(2, ((292 : Nat) : Int)), (0, ((n : Nat) : Int)), (0, ((12 * e : Nat) : Int)), (3, 0), (3, 0), (3, 0), (3, 0)] [] g t _
  have iNn_ := iNn hI
  have iRn_ := iRn hI hn
  refine xk_push rfl (p := 1) rfl ?_
  refine xk_store rfl (p := 2) rfl (by decide) (Nat.le_of_ble_eq_true rfl) (ls' := [(2, ((292 : Nat) : Int)), (0, ((n : Nat) : Int)), (0, ((12 * e : Nat) : Int)), (0, 0), (3, 0), (3, 0), (3, 0)]) rfl ?_
  have lp1 : ∀ r : Nat, r ≤ nR m n → ∀ (w4 : xV) (w5 : xV) (w6 : xV), (∀ i, i < r → ¬ bNo m n f i = true) → xOk (d + 2) 170 2 [(2, ((292 : Nat) : Int)), (0, ((n : Nat) : Int)), (0, ((12 * e : Nat) : Int)), (0, ((r : Nat) : Int)), w4, w5, w6] [] g t (xQ g t (some (0, if bGo m n f = true then (1 : Int) else 0))) := by
    refine xk_up (nR m n) (fun r hkr ih1  w4 w5 w6 hi1 => ?_)
    have iRo_ := fun (hh : r < nR m n) => iRo hI hn hk hh
    refine xk_load rfl (p := 3) rfl rfl ?_
    refine xk_load rfl (p := 4) rfl rfl ?_
    refine xk_getf rfl (p := 7) rfl (xob (ly_m L) (by decide)) (v := (2, ((301 : Nat) : Int))) (xsl2 rfl (ly_mp10 L)) ?_
    refine xk_load rfl (p := 8) rfl rfl ?_
    refine xk_ald rfl (p := 9) rfl (v := (0, ((nR m n : Nat) : Int))) ((xal0 (ly_ms10 L) (show n < 4 by omega)).trans (congrArg (fun z => some (0, z)) ((hM 301 n (by decide)).trans (iRn hI (show n < 4 by omega)).1))) ?_
    have iRn_ := iRn hI (show n < 4 by omega)
    refine xk_icmp rfl (p := 12) rfl (fun c9_2 => ?_) (fun c9_2 => ?_)
    · replace c9_2 : ((nR m n : Nat) : Int) ≤ ((r : Nat) : Int) := c9_2
      refine xk_push rfl (p := 130) rfl ?_
      refine xk_rete rfl (rfl) ?_
      exact (if_pos (bGo_y (fun q hq => hi1 q (by omega)))).symm
    · replace c9_2 : ¬ (((nR m n : Nat) : Int) ≤ ((r : Nat) : Int)) := c9_2
      refine xk_load rfl (p := 13) rfl rfl ?_
      refine xk_load rfl (p := 14) rfl rfl ?_
      refine xk_load rfl (p := 15) rfl rfl ?_
      refine xk_callp rfl (p := 18) rfl (by decide) rfl (Nat.le_of_ble_eq_true rfl) (Nat.le_of_ble_eq_true rfl) (xrv (ly_m L) (by decide)) (as := [(2, ((292 : Nat) : Int)), (0, ((n : Nat) : Int)), (0, ((r : Nat) : Int))]) (r := []) rfl (v := (0, m 303 (12 * n + r))) (n_nameOf L hM hI (show n < 4 by omega) (show r < 4 by omega)) ?_
      refine xk_store rfl (p := 20) rfl (by decide) (Nat.le_of_ble_eq_true rfl) (ls' := [(2, ((292 : Nat) : Int)), (0, ((n : Nat) : Int)), (0, ((12 * e : Nat) : Int)), (0, ((r : Nat) : Int)), (0, m 303 (12 * n + r)), w5, w6]) rfl ?_
      refine xk_load rfl (p := 21) rfl rfl ?_
      refine xk_load rfl (p := 22) rfl rfl ?_
      refine xk_load rfl (p := 23) rfl rfl ?_
      refine xk_load rfl (p := 24) rfl rfl ?_
      refine xk_getf rfl (p := 27) rfl (xob (ly_m L) (by decide)) (v := (2, ((315 : Nat) : Int))) (xsl2 rfl (ly_mp32 L)) ?_
      refine xk_load rfl (p := 28) rfl rfl ?_
      refine xk_load rfl (p := 30) rfl rfl ?_
      refine xk_bin rfl (p := 31) rfl (z := (((12 * e : Nat) : Int) + m 303 (12 * n + r))) (congrArg some (xadd_r (by omega) (by omega))) ?_
      refine xk_aldi rfl (p := 32) rfl (show 0 ≤ (((12 * e : Nat) : Int) + m 303 (12 * n + r)) by omega) (v := (0, f ((m 303 (12 * n + r)).toNat))) ((xal0 (ly_ms32 L) (show (((12 * e : Nat) : Int) + m 303 (12 * n + r)).toNat < 60 by omega)).trans (congrArg (fun z => some (0, z)) ((hM 315 ((((12 * e : Nat) : Int) + m 303 (12 * n + r)).toNat) (by decide)).trans ((congrArg (m 315) (show (((12 * e : Nat) : Int) + m 303 (12 * n + r)).toNat = 12 * e + (m 303 (12 * n + r)).toNat by omega)).trans (hf ((m 303 (12 * n + r)).toNat) (by omega)))))) ?_
      refine xk_callp rfl (p := 35) rfl (by decide) rfl (Nat.le_of_ble_eq_true rfl) (Nat.le_of_ble_eq_true rfl) (xrv (ly_m L) (by decide)) (as := [(2, ((292 : Nat) : Int)), (0, ((n : Nat) : Int)), (0, ((r : Nat) : Int)), (0, f ((m 303 (12 * n + r)).toNat))]) (r := []) rfl (v := (0, sAsk m n r (f ((m 303 (12 * n + r)).toNat)))) (n_isAsked L hM hI (show n < 4 by omega) (show r < 4 by omega)) ?_
      refine xk_if rfl (p := 38) rfl (fun c35_3 => ?_) (fun c35_3 => ?_)
      · replace c35_3 : ¬ (sAsk m n r (f ((m 303 (12 * n + r)).toNat)) = 0) := c35_3
        refine xk_push rfl (p := 41) rfl ?_
        refine xk_store rfl (p := 43) rfl (by decide) (Nat.le_of_ble_eq_true rfl) (ls' := [(2, ((292 : Nat) : Int)), (0, ((n : Nat) : Int)), (0, ((12 * e : Nat) : Int)), (0, ((r : Nat) : Int)), (0, m 303 (12 * n + r)), (0, 0), w6]) rfl ?_
        have lp4 : ∀ k : Nat, k ≤ nN m → ∀ (w6 : xV), (∀ i, i < k → ¬ bBd m n f r i = true) → xOk (d + 2) 170 43 [(2, ((292 : Nat) : Int)), (0, ((n : Nat) : Int)), (0, ((12 * e : Nat) : Int)), (0, ((r : Nat) : Int)), (0, m 303 (12 * n + r)), (0, ((k : Nat) : Int)), w6] [] g t (xQ g t (some (0, if bGo m n f = true then (1 : Int) else 0))) := by
          refine xk_up (nN m) (fun k hkk ih4  w6 hz1 => ?_)
          refine xk_load rfl (p := 45) rfl rfl ?_
          refine xk_load rfl (p := 46) rfl rfl ?_
          refine xk_getf rfl (p := 49) rfl (xob (ly_m L) (by decide)) (v := (0, ((nN m : Nat) : Int))) (xsl0 rfl ((hM 292 0 (by decide)).trans (iNn hI).1)) ?_
          have iNn_ := iNn hI
          refine xk_icmp rfl (p := 52) rfl (fun c49_5 => ?_) (fun c49_5 => ?_)
          · replace c49_5 : ((nN m : Nat) : Int) ≤ ((k : Nat) : Int) := c49_5
            refine xk_inc1 rfl (p := 126) rfl (n := r) rfl (by omega) (ls' := [(2, ((292 : Nat) : Int)), (0, ((n : Nat) : Int)), (0, ((12 * e : Nat) : Int)), (0, ((r + 1 : Nat) : Int)), (0, m 303 (12 * n + r)), (0, ((k : Nat) : Int)), w6]) rfl ?_
            refine xk_goto rfl ?_
            exact ih1 (by omega) (0, m 303 (12 * n + r)) (0, ((k : Nat) : Int)) w6 (by exact xall_up hi1 (bNo_n (by assumption) (fun q hq => by first | exact hz1 q (by omega) | (intro h; have h := (bBd_iff.mp h).1; contradiction))))
          · replace c49_5 : ¬ (((nN m : Nat) : Int) ≤ ((k : Nat) : Int)) := c49_5
            refine xk_load rfl (p := 53) rfl rfl ?_
            refine xk_load rfl (p := 54) rfl rfl ?_
            refine xk_load rfl (p := 55) rfl rfl ?_
            refine xk_callp rfl (p := 58) rfl (by decide) rfl (Nat.le_of_ble_eq_true rfl) (Nat.le_of_ble_eq_true rfl) (xrv (ly_m L) (by decide)) (as := [(2, ((292 : Nat) : Int)), (0, ((n : Nat) : Int)), (0, ((r : Nat) : Int))]) (r := []) rfl (v := (0, m 303 (12 * n + 8 + r))) (n_fresh L hM hI (show n < 4 by omega) (show r < 4 by omega)) ?_
            refine xk_if rfl (p := 61) rfl (fun c58_6 => ?_) (fun c58_6 => ?_)
            · replace c58_6 : m 303 (12 * n + 8 + r) = 0 := c58_6
              refine xk_inc1 rfl (p := 126) rfl (n := r) rfl (by omega) (ls' := [(2, ((292 : Nat) : Int)), (0, ((n : Nat) : Int)), (0, ((12 * e : Nat) : Int)), (0, ((r + 1 : Nat) : Int)), (0, m 303 (12 * n + r)), (0, ((k : Nat) : Int)), w6]) rfl ?_
              refine xk_goto rfl ?_
              exact ih1 (by omega) (0, m 303 (12 * n + r)) (0, ((k : Nat) : Int)) w6 (by exact xall_up hi1 (bNo_n (by assumption) (fun q hq => by first | exact hz1 q (by omega) | (intro h; have h := (bBd_iff.mp h).1; contradiction))))
            · replace c58_6 : ¬ (m 303 (12 * n + 8 + r) = 0) := c58_6
              refine xk_load rfl (p := 62) rfl rfl ?_
              refine xk_load rfl (p := 64) rfl rfl ?_
              refine xk_load rfl (p := 66) rfl rfl ?_
              refine xk_stk (show _ = (0, ((k : Nat) : Int)) :: (0, (((m 303 (12 * n + r)).toNat : Nat) : Int)) :: [(2, ((292 : Nat) : Int))] from congrArg (fun z => ((0, ((k : Nat) : Int)) : xV) :: ((0, z) : xV) :: [(2, ((292 : Nat) : Int))]) (Int.toNat_of_nonneg (show 0 ≤ m 303 (12 * n + r) by omega)).symm) ?_
              refine xk_callp rfl (p := 69) rfl (by decide) rfl (Nat.le_of_ble_eq_true rfl) (Nat.le_of_ble_eq_true rfl) (xrv (ly_m L) (by decide)) (as := [(2, ((292 : Nat) : Int)), (0, (((m 303 (12 * n + r)).toNat : Nat) : Int)), (0, ((k : Nat) : Int))]) (r := []) rfl (v := (0, (if bCla m ((m 303 (12 * n + r)).toNat) k = true then (1 : Int) else 0))) (n_clashes L hM hI (show (m 303 (12 * n + r)).toNat < nN m by omega) (show k < nN m by omega)) ?_
              refine xk_if rfl (p := 72) rfl (fun c69_7 => ?_) (fun c69_7 => ?_)
              · replace c69_7 : bCla m ((m 303 (12 * n + r)).toNat) k = true := xb_n0 c69_7
                refine xk_load rfl (p := 76) rfl rfl ?_
                refine xk_load rfl (p := 77) rfl rfl ?_
                refine xk_load rfl (p := 79) rfl rfl ?_
                refine xk_callp rfl (p := 82) rfl (by decide) rfl (Nat.le_of_ble_eq_true rfl) (Nat.le_of_ble_eq_true rfl) (xrv (ly_m L) (by decide)) (as := [(2, ((292 : Nat) : Int)), (0, ((n : Nat) : Int)), (0, ((k : Nat) : Int))]) (r := []) rfl (v := (0, sRow m n ((k : Nat) : Int))) (n_rowFor L hM hI (show n < 4 by omega)) ?_
                have sRow_ := sRow_rng (m := m) (d := n) (x := ((k : Nat) : Int))
                have iRn_ := iRn hI (show n < 4 by omega)
                refine xk_store rfl (p := 84) rfl (by decide) (Nat.le_of_ble_eq_true rfl) (ls' := [(2, ((292 : Nat) : Int)), (0, ((n : Nat) : Int)), (0, ((12 * e : Nat) : Int)), (0, ((r : Nat) : Int)), (0, m 303 (12 * n + r)), (0, ((k : Nat) : Int)), (0, sRow m n ((k : Nat) : Int))]) rfl ?_
                refine xk_load rfl (p := 86) rfl rfl ?_
                refine xk_push rfl (p := 87) rfl ?_
                refine xk_icmp rfl (p := 90) rfl (fun c87_8 => ?_) (fun c87_8 => ?_)
                · replace c87_8 : sRow m n ((k : Nat) : Int) = (-1) := c87_8
                  refine xk_load rfl (p := 104) rfl rfl ?_
                  refine xk_getf rfl (p := 107) rfl (xob (ly_m L) (by decide)) (v := (2, ((315 : Nat) : Int))) (xsl2 rfl (ly_mp32 L)) ?_
                  refine xk_load rfl (p := 108) rfl rfl ?_
                  refine xk_load rfl (p := 110) rfl rfl ?_
                  refine xk_bin rfl (p := 111) rfl (z := ((12 * e + k : Nat) : Int)) (congrArg some (xadd_n (n := 12 * e) (m := k) (by omega))) ?_
                  refine xk_ald rfl (p := 112) rfl (v := (0, f k)) ((xal0 (ly_ms32 L) (show 12 * e + k < 60 by omega)).trans (congrArg (fun z => some (0, z)) ((hM 315 (12 * e + k) (by decide)).trans ((hf k (by omega)))))) ?_
                  refine xk_if rfl (p := 115) rfl (fun c112_9 => ?_) (fun c112_9 => ?_)
                  · replace c112_9 : f k = 0 := c112_9
                    refine xk_inc1 rfl (p := 120) rfl (n := k) rfl (by omega) (ls' := [(2, ((292 : Nat) : Int)), (0, ((n : Nat) : Int)), (0, ((12 * e : Nat) : Int)), (0, ((r : Nat) : Int)), (0, m 303 (12 * n + r)), (0, ((k + 1 : Nat) : Int)), (0, sRow m n ((k : Nat) : Int))]) rfl ?_
                    refine xk_goto rfl ?_
                    exact ih4 (by omega) (0, sRow m n ((k : Nat) : Int)) (by exact xall_up hz1 (fun h => by obtain ⟨ha, hb, hc⟩ := bBd_iff.mp h; first | contradiction | omega))
                  · replace c112_9 : ¬ (f k = 0) := c112_9
                    refine xk_push rfl (p := 116) rfl ?_
                    refine xk_rete rfl (rfl) ?_
                    exact (if_neg (bGo_n (r := r) (by omega) (by first | exact bNo_a (by assumption) | exact bNo_b (q := k) (by omega) (bBd_iff.mpr ⟨by assumption, by assumption, by omega⟩)))).symm
                · replace c87_8 : ¬ (sRow m n ((k : Nat) : Int) = (-1)) := c87_8
                  refine xk_load rfl (p := 91) rfl rfl ?_
                  refine xk_load rfl (p := 92) rfl rfl ?_
                  refine xk_load rfl (p := 94) rfl rfl ?_
                  refine xk_stk (show _ = (0, (((sRow m n ((k : Nat) : Int)).toNat : Nat) : Int)) :: [(0, ((n : Nat) : Int)), (2, ((292 : Nat) : Int))] from congrArg (fun z => ((0, z) : xV) :: [(0, ((n : Nat) : Int)), (2, ((292 : Nat) : Int))]) (Int.toNat_of_nonneg (show 0 ≤ sRow m n ((k : Nat) : Int) by omega)).symm) ?_
                  refine xk_callp rfl (p := 97) rfl (by decide) rfl (Nat.le_of_ble_eq_true rfl) (Nat.le_of_ble_eq_true rfl) (xrv (ly_m L) (by decide)) (as := [(2, ((292 : Nat) : Int)), (0, ((n : Nat) : Int)), (0, (((sRow m n ((k : Nat) : Int)).toNat : Nat) : Int))]) (r := []) rfl (v := (0, m 303 (12 * n + 8 + ((sRow m n ((k : Nat) : Int)).toNat)))) (n_fresh L hM hI (show n < 4 by omega) (show (sRow m n ((k : Nat) : Int)).toNat < 4 by omega)) ?_
                  refine xk_if rfl (p := 100) rfl (fun c97_10 => ?_) (fun c97_10 => ?_)
                  · replace c97_10 : m 303 (12 * n + 8 + ((sRow m n ((k : Nat) : Int)).toNat)) = 0 := c97_10
                    refine xk_inc1 rfl (p := 120) rfl (n := k) rfl (by omega) (ls' := [(2, ((292 : Nat) : Int)), (0, ((n : Nat) : Int)), (0, ((12 * e : Nat) : Int)), (0, ((r : Nat) : Int)), (0, m 303 (12 * n + r)), (0, ((k + 1 : Nat) : Int)), (0, sRow m n ((k : Nat) : Int))]) rfl ?_
                    refine xk_goto rfl ?_
                    exact ih4 (by omega) (0, sRow m n ((k : Nat) : Int)) (by exact xall_up hz1 (fun h => by obtain ⟨ha, hb, hc⟩ := bBd_iff.mp h; first | contradiction | omega))
                  · replace c97_10 : ¬ (m 303 (12 * n + 8 + ((sRow m n ((k : Nat) : Int)).toNat)) = 0) := c97_10
                    refine xk_goto rfl ?_
                    refine xk_push rfl (p := 116) rfl ?_
                    refine xk_rete rfl (rfl) ?_
                    exact (if_neg (bGo_n (r := r) (by omega) (by first | exact bNo_a (by assumption) | exact bNo_b (q := k) (by omega) (bBd_iff.mpr ⟨by assumption, by assumption, by omega⟩)))).symm
              · replace c69_7 : ¬ (bCla m ((m 303 (12 * n + r)).toNat) k = true) := xb_e1 c69_7
                refine xk_goto rfl ?_
                refine xk_inc1 rfl (p := 120) rfl (n := k) rfl (by omega) (ls' := [(2, ((292 : Nat) : Int)), (0, ((n : Nat) : Int)), (0, ((12 * e : Nat) : Int)), (0, ((r : Nat) : Int)), (0, m 303 (12 * n + r)), (0, ((k + 1 : Nat) : Int)), w6]) rfl ?_
                refine xk_goto rfl ?_
                exact ih4 (by omega) w6 (by exact xall_up hz1 (fun h => by obtain ⟨ha, hb, hc⟩ := bBd_iff.mp h; first | contradiction | omega))
        exact lp4 0 (by omega) w6 (by intro i h; omega)
      · replace c35_3 : sAsk m n r (f ((m 303 (12 * n + r)).toNat)) = 0 := Decidable.not_not.mp c35_3
        refine xk_push rfl (p := 39) rfl ?_
        refine xk_rete rfl (rfl) ?_
        exact (if_neg (bGo_n (r := r) (by omega) (by first | exact bNo_a (by assumption) | exact bNo_b (q := k) (by omega) (bBd_iff.mpr ⟨by assumption, by assumption, by omega⟩)))).symm
  exact lp1 0 (by omega) (3, 0) (3, 0) (3, 0) (by intro i h; omega)

theorem bFit_y {m : xD} {f : Nat → Int} (h : ∀ i, i < (m 292 19).toNat → ¬ ¬ f (m 306 i).toNat = m 307 i) : bFit m f = true := by
  unfold bFit
  have := xexf0 (P := fun i => ¬ f (m 306 i).toNat = m 307 i) (Nat.le_refl (m 292 19).toNat) h
  simp only [Bool.not_eq_true] at this
  rw [this]
  rfl
theorem bFit_n {m : xD} {f : Nat → Int} {i : Nat} (hi : i < (m 292 19).toNat) (h : ¬ f (m 306 i).toNat = m 307 i) : ¬ bFit m f = true := by
  unfold bFit
  rw [xexb_iff.mpr ⟨i, hi, decide_eq_true h⟩]
  simp
theorem n_isSeen {d : Nat} {g : xG} {t m : xD} {e : Nat} {f : Nat → Int} (L : xLay g) (hM : Mo t m) (hI : Inv m) (he : e ≤ 4) (hf : ∀ q, q < nN m → m 315 (12 * e + q) = f q) : xCall (d) 171 [(2, ((292 : Nat) : Int)), (0, ((12 * e : Nat) : Int))] g t (xQ g t (some (0, if bFit m f = true then (1 : Int) else 0))) := by
  show xOk (d) 171 0 [(2, ((292 : Nat) : Int)), (0, ((12 * e : Nat) : Int)), (3, 0)] [] g t _
  have iNn_ := iNn hI
  have iS0_ := iS hI
  refine xk_push rfl (p := 1) rfl ?_
  refine xk_store rfl (p := 2) rfl (by decide) (Nat.le_of_ble_eq_true rfl) (ls' := [(2, ((292 : Nat) : Int)), (0, ((12 * e : Nat) : Int)), (0, 0)]) rfl ?_
  have lp1 : ∀ k : Nat, k ≤ (m 292 19).toNat → (∀ i, i < k → ¬ ¬ f (m 306 i).toNat = m 307 i) → xOk (d) 171 2 [(2, ((292 : Nat) : Int)), (0, ((12 * e : Nat) : Int)), (0, ((k : Nat) : Int))] [] g t (xQ g t (some (0, if bFit m f = true then (1 : Int) else 0))) := by
    refine xk_up ((m 292 19).toNat) (fun k hkk ih1  hi1 => ?_)
    refine xk_load rfl (p := 3) rfl rfl ?_
    refine xk_load rfl (p := 4) rfl rfl ?_
    refine xk_getf rfl (p := 7) rfl (xob (ly_m L) (by decide)) (v := (0, m 292 19)) (xsl0 rfl (hM 292 19 (by decide))) ?_
    have iS_ := iS hI
    refine xk_icmp rfl (p := 10) rfl (fun c7_2 => ?_) (fun c7_2 => ?_)
    · replace c7_2 : m 292 19 ≤ ((k : Nat) : Int) := c7_2
      refine xk_push rfl (p := 41) rfl ?_
      refine xk_rete rfl (rfl) ?_
      exact (if_pos (bFit_y (fun i hi => hi1 i (by omega)))).symm
    · replace c7_2 : ¬ (m 292 19 ≤ ((k : Nat) : Int)) := c7_2
      refine xk_load rfl (p := 11) rfl rfl ?_
      refine xk_getf rfl (p := 14) rfl (xob (ly_m L) (by decide)) (v := (2, ((315 : Nat) : Int))) (xsl2 rfl (ly_mp32 L)) ?_
      refine xk_load rfl (p := 15) rfl rfl ?_
      refine xk_load rfl (p := 16) rfl rfl ?_
      refine xk_getf rfl (p := 19) rfl (xob (ly_m L) (by decide)) (v := (2, ((306 : Nat) : Int))) (xsl2 rfl (ly_mp20 L)) ?_
      refine xk_load rfl (p := 20) rfl rfl ?_
      refine xk_ald rfl (p := 21) rfl (v := (0, m 306 k)) ((xal0 (ly_ms20 L) (show k < 5 by omega)).trans (congrArg (fun z => some (0, z)) (hM 306 k (by decide)))) ?_
      have iS_ := (iS hI).2.2 k (show ((k : Nat) : Int) < m 292 19 by omega)
      refine xk_bin rfl (p := 22) rfl (z := (((12 * e : Nat) : Int) + m 306 k)) (congrArg some (xadd_r (by omega) (by omega))) ?_
      refine xk_aldi rfl (p := 23) rfl (show 0 ≤ (((12 * e : Nat) : Int) + m 306 k) by omega) (v := (0, f ((m 306 k).toNat))) ((xal0 (ly_ms32 L) (show (((12 * e : Nat) : Int) + m 306 k).toNat < 60 by omega)).trans (congrArg (fun z => some (0, z)) ((hM 315 ((((12 * e : Nat) : Int) + m 306 k).toNat) (by decide)).trans ((congrArg (m 315) (show (((12 * e : Nat) : Int) + m 306 k).toNat = 12 * e + (m 306 k).toNat by omega)).trans (hf ((m 306 k).toNat) (by omega)))))) ?_
      refine xk_load rfl (p := 24) rfl rfl ?_
      refine xk_getf rfl (p := 27) rfl (xob (ly_m L) (by decide)) (v := (2, ((307 : Nat) : Int))) (xsl2 rfl (ly_mp21 L)) ?_
      refine xk_load rfl (p := 28) rfl rfl ?_
      refine xk_ald rfl (p := 29) rfl (v := (0, m 307 k)) ((xal0 (ly_ms21 L) (show k < 5 by omega)).trans (congrArg (fun z => some (0, z)) (hM 307 k (by decide)))) ?_
      refine xk_icmp rfl (p := 32) rfl (fun c29_3 => ?_) (fun c29_3 => ?_)
      · replace c29_3 : f ((m 306 k).toNat) = m 307 k := c29_3
        refine xk_inc1 rfl (p := 37) rfl (n := k) rfl (by omega) (ls' := [(2, ((292 : Nat) : Int)), (0, ((12 * e : Nat) : Int)), (0, ((k + 1 : Nat) : Int))]) rfl ?_
        refine xk_goto rfl ?_
        exact ih1 (by omega)  (by exact xall_up hi1 (by omega))
      · replace c29_3 : ¬ (f ((m 306 k).toNat) = m 307 k) := c29_3
        refine xk_push rfl (p := 33) rfl ?_
        refine xk_rete rfl (rfl) ?_
        exact (if_neg (bFit_n (i := k) (by omega) (by assumption))).symm
  exact lp1 0 (by omega)  (by intro i h; omega)
