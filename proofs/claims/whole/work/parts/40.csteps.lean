/-! THE CLASS: STEPS OF A DEAL -/
/-- what an entry more makes of a journal at a: S entries were there -/
def jN (S : Nat) : Nat := if S = 6 then 5 else S
def JAdd (t u : xD) (a S : Nat) (x y z : Int) : Prop := (∀ b k, ¬ (a ≤ b ∧ b ≤ a + 3) → u b k = t b k) ∧ u a 3 = ((jN S + 1 : Nat) : Int) ∧ (∀ k, k < jN S → u (a + 1) k = t (a + 1) (k + (S - jN S)) ∧ u (a + 2) k = t (a + 2) (k + (S - jN S)) ∧ u (a + 3) k = t (a + 3) (k + (S - jN S))) ∧ u (a + 1) (jN S) = x ∧ u (a + 2) (jN S) = y ∧ u (a + 3) (jN S) = z
theorem c_jadd {d : Nat} {a S : Nat} {g : xG} {t : xD} {x y z : Int} (hd : xJr g a) (hr : t a 3 = ((S : Nat) : Int)) (hS : S ≤ 6) (ha : 2 ≤ a) : xCall (d + 1) 9 [(2, ((a : Nat) : Int)), (0, x), (0, y), (0, z)] g t (fun r g1 t1 => g1 = g ∧ r = none ∧ JAdd t t1 a S x y z) := by
  show xOk (d + 1) 9 0 [(2, ((a : Nat) : Int)), (0, x), (0, y), (0, z)] [] g t _
  refine xk_load rfl (p := 1) rfl rfl ?_
  refine xk_getf rfl (p := 4) rfl (xob (hd.1) (by decide)) (v := (0, ((S : Nat) : Int))) (xsl0 rfl hr) ?_
  refine xk_push rfl (p := 6) rfl ?_
  refine xk_icmp rfl (p := 9) rfl (fun c6_1 => ?_) (fun c6_1 => ?_)
  · replace c6_1 : ((S : Nat) : Int) < 6 := c6_1
    refine xk_load rfl (p := 15) rfl rfl ?_
    refine xk_getf rfl (p := 18) rfl (xob (hd.1) (by decide)) (v := (2, (((a + 1) : Nat) : Int))) (xsl2 rfl (hd.2.2.2.2.1)) ?_
    refine xk_load rfl (p := 19) rfl rfl ?_
    refine xk_getf rfl (p := 22) rfl (xob (hd.1) (by decide)) (v := (0, ((S : Nat) : Int))) (xsl0 rfl hr) ?_
    refine xk_load rfl (p := 23) rfl rfl ?_
    refine xk_ast rfl (p := 24) rfl (by decide) rfl (xsk (hd.2.1)) (xsn (hd.2.1) (show S < 6 by omega)) (by omega) ?_
    refine xk_load rfl (p := 25) rfl rfl ?_
    refine xk_getf rfl (p := 28) rfl (xob (hd.1) (by decide)) (v := (2, (((a + 2) : Nat) : Int))) (xsl2 rfl (hd.2.2.2.2.2.1)) ?_
    refine xk_load rfl (p := 29) rfl rfl ?_
    refine xk_getf rfl (p := 32) rfl (xob (hd.1) (by decide)) (v := (0, ((S : Nat) : Int))) (xsl0 rfl ((xupd_ne (by omega)).trans (hr))) ?_
    refine xk_load rfl (p := 33) rfl rfl ?_
    refine xk_ast rfl (p := 34) rfl (by decide) rfl (xsk (hd.2.2.1)) (xsn (hd.2.2.1) (show S < 6 by omega)) (by omega) ?_
    refine xk_load rfl (p := 35) rfl rfl ?_
    refine xk_getf rfl (p := 38) rfl (xob (hd.1) (by decide)) (v := (2, (((a + 3) : Nat) : Int))) (xsl2 rfl (hd.2.2.2.2.2.2)) ?_
    refine xk_load rfl (p := 39) rfl rfl ?_
    refine xk_getf rfl (p := 42) rfl (xob (hd.1) (by decide)) (v := (0, ((S : Nat) : Int))) (xsl0 rfl ((xupd_ne (by omega)).trans (((xupd_ne (by omega)).trans (hr))))) ?_
    refine xk_load rfl (p := 43) rfl rfl ?_
    refine xk_ast rfl (p := 44) rfl (by decide) rfl (xsk (hd.2.2.2.1)) (xsn (hd.2.2.2.1) (show S < 6 by omega)) (by omega) ?_
    refine xk_load rfl (p := 45) rfl rfl ?_
    refine xk_dup rfl (p := 46) rfl (show ¬ (2 : Nat) = 1 by decide) ?_
    refine xk_getf rfl (p := 49) rfl (xob (hd.1) (by decide)) (v := (0, ((S : Nat) : Int))) (xsl0 rfl ((xupd_ne (by omega)).trans (((xupd_ne (by omega)).trans (((xupd_ne (by omega)).trans (hr))))))) ?_
    refine xk_push rfl (p := 50) rfl ?_
    refine xk_bin rfl (p := 51) rfl (z := ((S + 1 : Nat) : Int)) (congrArg some (xadd_n (n := S) (m := 1) (by omega))) ?_
    refine xk_putf rfl (p := 54) rfl (xob (hd.1) (by decide)) rfl (by decide) (by decide) (fun h => absurd h (by decide)) (by omega) ?_
    refine xk_ret rfl (rfl) ?_
    have ej : jN S = S := if_neg (by omega)
    refine ⟨rfl, rfl, ?_⟩
    unfold JAdd
    rw [ej]
    refine ⟨fun b k hb => (xupd_ne (by omega)).trans ((xupd_ne (by omega)).trans ((xupd_ne (by omega)).trans (xupd_ne (by omega)))), xupd_eq, fun k hk => ?_, ?_, ?_, ?_⟩
    · rw [show k + (S - S) = k by omega]
      exact ⟨(xupd_ne (by omega)).trans ((xupd_ne (by omega)).trans ((xupd_ne (by omega)).trans (xupd_ne (by omega)))), (xupd_ne (by omega)).trans ((xupd_ne (by omega)).trans ((xupd_ne (by omega)).trans (xupd_ne (by omega)))), (xupd_ne (by omega)).trans ((xupd_ne (by omega)).trans ((xupd_ne (by omega)).trans (xupd_ne (by omega))))⟩
    · exact (xupd_ne (by omega)).trans ((xupd_ne (by omega)).trans ((xupd_ne (by omega)).trans xupd_eq))
    · exact (xupd_ne (by omega)).trans ((xupd_ne (by omega)).trans xupd_eq)
    · exact (xupd_ne (by omega)).trans xupd_eq
  · replace c6_1 : ¬ (((S : Nat) : Int) < 6) := c6_1
    refine xk_load rfl (p := 10) rfl rfl ?_
    refine xk_push rfl (p := 11) rfl ?_
    refine xk_call rfl (p := 14) rfl (by decide) rfl (Nat.le_of_ble_eq_true rfl) (Nat.le_of_ble_eq_true rfl) (xrv (hd.1) (by decide)) (as := [(2, ((a : Nat) : Int)), (0, 1)]) (r := []) rfl (m_jdrop (G := 1) hd hr hS ha (by omega)) ?_
    rintro _ g v1 ⟨rfl, rfl, ev1⟩
    have hv1 : v1 a 3 = ((S - 1 : Nat) : Int) := by rw [ev1]; exact xupd_eq
    refine xk_load rfl (p := 15) rfl rfl ?_
    refine xk_getf rfl (p := 18) rfl (xob (hd.1) (by decide)) (v := (2, (((a + 1) : Nat) : Int))) (xsl2 rfl (hd.2.2.2.2.1)) ?_
    refine xk_load rfl (p := 19) rfl rfl ?_
    refine xk_getf rfl (p := 22) rfl (xob (hd.1) (by decide)) (v := (0, ((S - 1 : Nat) : Int))) (xsl0 rfl hv1) ?_
    refine xk_load rfl (p := 23) rfl rfl ?_
    refine xk_ast rfl (p := 24) rfl (by decide) rfl (xsk (hd.2.1)) (xsn (hd.2.1) (show S - 1 < 6 by omega)) (by omega) ?_
    refine xk_load rfl (p := 25) rfl rfl ?_
    refine xk_getf rfl (p := 28) rfl (xob (hd.1) (by decide)) (v := (2, (((a + 2) : Nat) : Int))) (xsl2 rfl (hd.2.2.2.2.2.1)) ?_
    refine xk_load rfl (p := 29) rfl rfl ?_
    refine xk_getf rfl (p := 32) rfl (xob (hd.1) (by decide)) (v := (0, ((S - 1 : Nat) : Int))) (xsl0 rfl ((xupd_ne (by omega)).trans (hv1))) ?_
    refine xk_load rfl (p := 33) rfl rfl ?_
    refine xk_ast rfl (p := 34) rfl (by decide) rfl (xsk (hd.2.2.1)) (xsn (hd.2.2.1) (show S - 1 < 6 by omega)) (by omega) ?_
    refine xk_load rfl (p := 35) rfl rfl ?_
    refine xk_getf rfl (p := 38) rfl (xob (hd.1) (by decide)) (v := (2, (((a + 3) : Nat) : Int))) (xsl2 rfl (hd.2.2.2.2.2.2)) ?_
    refine xk_load rfl (p := 39) rfl rfl ?_
    refine xk_getf rfl (p := 42) rfl (xob (hd.1) (by decide)) (v := (0, ((S - 1 : Nat) : Int))) (xsl0 rfl ((xupd_ne (by omega)).trans (((xupd_ne (by omega)).trans (hv1))))) ?_
    refine xk_load rfl (p := 43) rfl rfl ?_
    refine xk_ast rfl (p := 44) rfl (by decide) rfl (xsk (hd.2.2.2.1)) (xsn (hd.2.2.2.1) (show S - 1 < 6 by omega)) (by omega) ?_
    refine xk_load rfl (p := 45) rfl rfl ?_
    refine xk_dup rfl (p := 46) rfl (show ¬ (2 : Nat) = 1 by decide) ?_
    refine xk_getf rfl (p := 49) rfl (xob (hd.1) (by decide)) (v := (0, ((S - 1 : Nat) : Int))) (xsl0 rfl ((xupd_ne (by omega)).trans (((xupd_ne (by omega)).trans (((xupd_ne (by omega)).trans (hv1))))))) ?_
    refine xk_push rfl (p := 50) rfl ?_
    refine xk_bin rfl (p := 51) rfl (z := ((S - 1 + 1 : Nat) : Int)) (congrArg some (xadd_n (n := S - 1) (m := 1) (by omega))) ?_
    refine xk_putf rfl (p := 54) rfl (xob (hd.1) (by decide)) rfl (by decide) (by decide) (fun h => absurd h (by decide)) (by omega) ?_
    refine xk_ret rfl (rfl) ?_
    have e6 : S = 6 := by omega
    subst e6
    have dr : ∀ b k, ¬ (a ≤ b ∧ b ≤ a + 3) → v1 b k = t b k := fun b k hb => by rw [ev1]; exact (xupd_ne (by omega)).trans (xdrp_ge (by omega))
    have dk : ∀ j k, (j = 1 ∨ j = 2 ∨ j = 3) → k < 5 → v1 (a + j) k = t (a + j) (k + 1) := fun j k hj hk => by rw [ev1]; exact (xupd_ne (by omega)).trans (if_pos (by omega))
    refine ⟨rfl, rfl, fun b k hb => (xupd_ne (by omega)).trans ((xupd_ne (by omega)).trans ((xupd_ne (by omega)).trans ((xupd_ne (by omega)).trans (dr b k hb)))), xupd_eq, fun k hk => ?_, ?_, ?_, ?_⟩
    · have hk : k < 5 := hk
      exact ⟨(xupd_ne (by omega)).trans ((xupd_ne (by omega)).trans ((xupd_ne (by omega)).trans ((xupd_ne (by omega)).trans (dk 1 k (by omega) hk)))), (xupd_ne (by omega)).trans ((xupd_ne (by omega)).trans ((xupd_ne (by omega)).trans ((xupd_ne (by omega)).trans (dk 2 k (by omega) hk)))), (xupd_ne (by omega)).trans ((xupd_ne (by omega)).trans ((xupd_ne (by omega)).trans ((xupd_ne (by omega)).trans (dk 3 k (by omega) hk))))⟩
    · exact (xupd_ne (by omega)).trans ((xupd_ne (by omega)).trans ((xupd_ne (by omega)).trans xupd_eq))
    · exact (xupd_ne (by omega)).trans ((xupd_ne (by omega)).trans xupd_eq)
    · exact (xupd_ne (by omega)).trans xupd_eq

theorem jN_ok {S : Nat} (h : S ≤ 6) : jN S ≤ 5 ∧ jN S ≤ S ∧ S ≤ jN S + 1 := by
  unfold jN
  split <;> omega
theorem tNote_Jn {m : xD} {n : Nat} {w i : Int} : tNote m n w i 298 n = ((jN (nJ m n) + 1 : Nat) : Int) := by
  rw [tNote_98, if_pos rfl]
  unfold jN
  split <;> rfl
theorem tNote_kq {m : xD} {n a k : Nat} {w i : Int} (h : a ≠ 298 ∧ a ≠ 299) : tNote m n w i a k = m a k := by
  unfold tNote
  split
  · exact (xupd_ne (by omega)).trans ((xupd_ne (by omega)).trans ((xupd_ne (by omega)).trans ((xupd_ne (by omega)).trans ((xsh_ne (by omega)).trans (xupd_ne (by omega))))))
  · exact (xupd_ne (by omega)).trans ((xupd_ne (by omega)).trans ((xupd_ne (by omega)).trans (xupd_ne (by omega))))
/-- a name's journal behind a note -/
theorem tNote_99 {m : xD} {n : Nat} {w i : Int} (h6 : nJ m n ≤ 6) : (∀ k j, k < jN (nJ m n) → j < 3 → tNote m n w i 299 (18 * n + 3 * k + j) = m 299 (18 * n + 3 * (k + (nJ m n - jN (nJ m n))) + j)) ∧ tNote m n w i 299 (18 * n + 3 * jN (nJ m n)) = m 292 6 ∧ tNote m n w i 299 (18 * n + 3 * jN (nJ m n) + 1) = w ∧ tNote m n w i 299 (18 * n + 3 * jN (nJ m n) + 2) = i ∧ (∀ q k, q ≠ n → k < 18 → tNote m n w i 299 (18 * q + k) = m 299 (18 * q + k)) := by
  unfold tNote
  by_cases c : nJ m n = 6
  · have e : jN (nJ m n) = 5 := by rw [c]; rfl
    rw [if_pos c, e]
    have eJ : nJ (tDrop m n) n = 5 := by rw [tDrop_J, c]
    unfold tRow
    rw [eJ]
    refine ⟨fun k j hk hj => ?_, ?_, ?_, ?_, fun q k hq hk => ?_⟩
    · refine (xupd_ne (by omega)).trans ((xupd_ne (by omega)).trans ((xupd_ne (by omega)).trans ((xupd_ne (by omega)).trans ?_)))
      rw [show 18 * n + 3 * k + j = 18 * n + (3 * k + j) by omega, tDrop_99 (by omega), c]
      exact congrArg (m 299) (by omega)
    · exact (xupd_ne (by omega)).trans ((xupd_ne (by omega)).trans ((xupd_ne (by omega)).trans (xupd_eq.trans (tDrop_kp 292 6 (by omega)))))
    · exact (xupd_ne (by omega)).trans ((xupd_ne (by omega)).trans xupd_eq)
    · exact (xupd_ne (by omega)).trans xupd_eq
    · refine (xupd_ne (by omega)).trans ((xupd_ne (by omega)).trans ((xupd_ne (by omega)).trans ((xupd_ne (by omega)).trans ?_)))
      exact tDrop_9o hq hk h6
  · have e : jN (nJ m n) = nJ m n := if_neg c
    rw [if_neg c, e]
    unfold tRow
    refine ⟨fun k j hk hj => ?_, ?_, ?_, ?_, fun q k hq hk => ?_⟩
    · refine (xupd_ne (by omega)).trans ((xupd_ne (by omega)).trans ((xupd_ne (by omega)).trans ((xupd_ne (by omega)).trans ?_)))
      exact congrArg (m 299) (by omega)
    · exact (xupd_ne (by omega)).trans ((xupd_ne (by omega)).trans ((xupd_ne (by omega)).trans xupd_eq))
    · exact (xupd_ne (by omega)).trans ((xupd_ne (by omega)).trans xupd_eq)
    · exact (xupd_ne (by omega)).trans xupd_eq
    · exact (xupd_ne (by omega)).trans ((xupd_ne (by omega)).trans ((xupd_ne (by omega)).trans (xupd_ne (by omega))))
/-- what of m counts but revisions and journals -/
def nv (m : xD) : xD := fun a k => if a = 296 ∨ a = 297 ∨ a = 298 ∨ a = 299 then 0 else m a k
theorem nv_kp {m w : xD} (h : Kp m w) : nv w = nv m := by
  funext a k
  unfold nv
  by_cases c : a = 296 ∨ a = 297 ∨ a = 298 ∨ a = 299
  · rw [if_pos c, if_pos c]
  · rw [if_neg c, if_neg c, h a k c]
theorem R1_nv {t m : xD} {s : Nat} : R1 t s (nv m) = R1 t s m := rfl
theorem R2_nv {t m : xD} {s : Nat} : R2 t s (nv m) = R2 t s m := rfl
theorem R5_nv {t m : xD} {s : Nat} : R5 t s (nv m) = R5 t s m := rfl
theorem R6_nv {t m : xD} {s : Nat} : R6 t s (nv m) = R6 t s m := rfl
theorem R7_nv {t m : xD} {s : Nat} : R7 t s (nv m) = R7 t s m := rfl
theorem R8_nv {t m : xD} {s : Nat} : R8 t s (nv m) = R8 t s m := rfl
def nvk (m : xD) (n : Nat) : Int × Nat := (kK m n, sKin m n)
theorem nvk_nv {m : xD} {n : Nat} : nvk (nv m) n = nvk m n := rfl
/-- a change at one name's revisions and journal -/
theorem Rep.name {t u m w : xD} {s n : Nat} (h : Rep t s m) (hI : Inv m) (hn : n < nN m) (ht : ∀ a k, ¬ (18 + 89 * s + 5 * n ≤ a ∧ a < 23 + 89 * s + 5 * n) → u a k = t a k) (htk : ∀ k, k ≠ 5 → k ≠ 6 → u (18 + 89 * s + 5 * n) k = t (18 + 89 * s + 5 * n) k) (hm : Kp m w) (ho : ∀ q, q ≠ n → q < nN m → w 296 q = m 296 q ∧ w 297 q = m 297 q ∧ w 298 q = m 298 q ∧ ∀ k, k < 18 → w 299 (18 * q + k) = m 299 (18 * q + k)) (h3 : u (18 + 89 * s + 5 * n) 5 = w 296 n ∧ u (18 + 89 * s + 5 * n) 6 = w 297 n) (h4 : u (18 + 89 * s + 5 * n + 1) 3 = w 298 n ∧ ∀ k : Nat, (k : Int) < w 298 n → u (18 + 89 * s + 5 * n + 1 + 1) k = w 299 (18 * n + 3 * k) ∧ u (18 + 89 * s + 5 * n + 1 + 2) k = w 299 (18 * n + 3 * k + 1) ∧ u (18 + 89 * s + 5 * n + 1 + 3) k = w 299 (18 * n + 3 * k + 2)) : Rep u s w := by
  have hN := iNn hI
  have e := nv_kp hm
  have eN : nN w = nN m := by unfold nN; rw [hm 292 0 (by decide)]
  refine ⟨?_, ?_, ?_, ?_, ?_, ?_, ?_, ?_⟩
  · have h1 := h.1.fr (u := u) (fun k => ht _ k (by omega))
    rw [← R1_nv, e, R1_nv]; exact h1
  · have h1 := h.2.1.fr (u := u) (fun k => ht _ k (by omega))
    rw [← R2_nv, e, R2_nv]; exact h1
  · intro q hq
    rw [eN] at hq
    have h1 := h.2.2.1 q hq
    have ek : nvk w q = nvk m q := by rw [← nvk_nv, e, nvk_nv]
    have ek1 : kK w q = kK m q := congrArg Prod.fst ek
    have ek2 : sKin w q = sKin m q := congrArg Prod.snd ek
    rw [ek1, ek2, hm 294 q (by decide), hm 295 q (by decide), hm 304 q (by decide)]
    by_cases c : q = n
    · subst c
      rw [htk 1 (by decide) (by decide), htk 2 (by decide) (by decide), htk 3 (by decide) (by decide), htk 4 (by decide) (by decide), htk 7 (by decide) (by decide)]
      exact ⟨h1.1, h1.2.1, h1.2.2.1, h1.2.2.2.1, h3.1, h3.2, h1.2.2.2.2.2.2⟩
    · have f := fun k => ht (18 + 89 * s + 5 * q) k (by omega)
      simp only [f]
      rw [(ho q c hq).1, (ho q c hq).2.1]
      exact h1
  · intro q hq
    rw [eN] at hq
    have h1 := h.2.2.2.1 q hq
    by_cases c : q = n
    · subst c
      exact h4
    · have jq := iJn hI hq
      have f0 := fun k => ht (18 + 89 * s + 5 * q + 1) k (by omega)
      have f1 := fun k => ht (18 + 89 * s + 5 * q + 1 + 1) k (by omega)
      have f2 := fun k => ht (18 + 89 * s + 5 * q + 1 + 2) k (by omega)
      have f3 := fun k => ht (18 + 89 * s + 5 * q + 1 + 3) k (by omega)
      simp only [f0, f1, f2, f3]
      have o := ho q c hq
      rw [o.2.2.1]
      refine ⟨h1.1, fun k hk => ?_⟩
      have := h1.2 k hk
      rw [o.2.2.2 (3 * k) (by omega), show 18 * q + 3 * k + 1 = 18 * q + (3 * k + 1) by omega, o.2.2.2 (3 * k + 1) (by omega), show 18 * q + 3 * k + 2 = 18 * q + (3 * k + 2) by omega, o.2.2.2 (3 * k + 2) (by omega)]
      exact this
  · have h1 := h.2.2.2.2.1.fr (u := u) (fun d j k hd hj => ht _ k (by omega))
    rw [← R5_nv, e, R5_nv]; exact h1
  · have h1 := h.2.2.2.2.2.1.fr (u := u) (fun j k hj => ht _ k (by omega))
    rw [← R6_nv, e, R6_nv]; exact h1
  · have h1 := h.2.2.2.2.2.2.1.fr (u := u) (fun j k hj => ht _ k (by omega))
    rw [← R7_nv, e, R7_nv]; exact h1
  · have h1 := h.2.2.2.2.2.2.2.fr (u := u) (fun j k hj => ht _ k (by omega))
    rw [← R8_nv, e, R8_nv]; exact h1
/-- a revision comes to a name, and an entry to its journal -/
theorem Rep.note {t u m : xD} {s n : Nat} {f : Int} (h : Rep t s m) (hI : Inv m) (hn : n < nN m) (hJ : JAdd t u (18 + 89 * s + 5 * n + 1) (nJ m n) (m 292 6) (sSto m n) f) : Rep (xupd u (18 + 89 * s + 5 * n) 5 f) s (tNote (xupd m 296 n f) n (sSto m n) f) ∧ Rep (xupd (xupd u (18 + 89 * s + 5 * n) 5 f) (18 + 89 * s + 5 * n) 6 0) s (tNote (xupd (xupd m 296 n f) 297 n 0) n (sSto m n) f) := by
  obtain ⟨j1, j2, j3, j4, j5, j6⟩ := hJ
  have hN := iNn hI
  have jn := iJn hI hn
  have jo := jN_ok jn.2
  have h1 := h.2.2.1 n hn
  have h2 := h.2.2.2.1 n hn
  have k1 : ∀ x, Kp m (xupd m 296 n x) := fun x a k hh => xupd_ne (by omega)
  have k2 : ∀ x y, Kp m (xupd (xupd m 296 n x) 297 n y) := fun x y a k hh => (xupd_ne (by omega)).trans (xupd_ne (by omega))
  have gen : ∀ (v w : xD), nJ w n = nJ m n → w 292 6 = m 292 6 → (∀ k, w 299 k = m 299 k) → (∀ a k, a ≠ 18 + 89 * s + 5 * n → v a k = u a k) → (v (18 + 89 * s + 5 * n + 1) 3 = tNote w n (sSto m n) f 298 n ∧ ∀ k : Nat, (k : Int) < tNote w n (sSto m n) f 298 n → v (18 + 89 * s + 5 * n + 1 + 1) k = tNote w n (sSto m n) f 299 (18 * n + 3 * k) ∧ v (18 + 89 * s + 5 * n + 1 + 2) k = tNote w n (sSto m n) f 299 (18 * n + 3 * k + 1) ∧ v (18 + 89 * s + 5 * n + 1 + 3) k = tNote w n (sSto m n) f 299 (18 * n + 3 * k + 2)) := by
    intro v w e1 e2 e3 e4
    have t9 := tNote_99 (m := w) (n := n) (w := sSto m n) (i := f) (by rw [e1]; exact jn.2)
    rw [e1] at t9
    rw [tNote_Jn, e1]
    refine ⟨by rw [e4 _ 3 (by omega)]; exact j2, fun k hk => ?_⟩
    rw [e4 _ k (by omega), e4 _ k (by omega), e4 _ k (by omega)]
    by_cases c : k = jN (nJ m n)
    · subst c
      rw [t9.2.1, t9.2.2.1, t9.2.2.2.1, e2]
      exact ⟨j4, j5, j6⟩
    · have hk2 : k < jN (nJ m n) := by omega
      have a := j3 k hk2
      have b := h2.2 (k + (nJ m n - jN (nJ m n))) (by omega)
      have c0 := t9.1 k 0 hk2 (by omega)
      have c1 := t9.1 k 1 hk2 (by omega)
      have c2 := t9.1 k 2 hk2 (by omega)
      rw [e3] at c0 c1 c2
      exact ⟨(a.1.trans b.1).trans c0.symm, (a.2.1.trans b.2.1).trans c1.symm, (a.2.2.trans b.2.2).trans c2.symm⟩
  refine ⟨h.name hI hn (fun a k hh => (xupd_ne (by omega)).trans (j1 a k (by omega))) (fun k h5 h6 => (xupd_ne (by omega)).trans (j1 _ k (by omega))) ((k1 f).tr tNote_kp) (fun q hq hqn => ?_) ?_ (gen _ _ rfl rfl (fun _ => rfl) (fun a k hh => xupd_ne (by omega))), h.name hI hn (fun a k hh => (xupd_ne (by omega)).trans ((xupd_ne (by omega)).trans (j1 a k (by omega)))) (fun k h5 h6 => (xupd_ne (by omega)).trans ((xupd_ne (by omega)).trans (j1 _ k (by omega)))) ((k2 f 0).tr tNote_kp) (fun q hq hqn => ?_) ?_ (gen _ _ rfl rfl (fun _ => rfl) (fun a k hh => (xupd_ne (by omega)).trans (xupd_ne (by omega))))⟩
  · have t9 := (tNote_99 (m := xupd m 296 n f) (n := n) (w := sSto m n) (i := f) jn.2).2.2.2.2
    refine ⟨(tNote_kq (by omega)).trans (xupd_ne (by omega)), (tNote_kq (by omega)).trans (xupd_ne (by omega)), ?_, fun k hk => t9 q k hq hk⟩
    rw [tNote_98, if_neg hq]
    rfl
  · exact ⟨xupd_eq.trans (Eq.symm ((tNote_kq (by omega)).trans xupd_eq)), ((xupd_ne (by omega)).trans ((j1 _ 6 (by omega)).trans h1.2.2.2.2.2.1)).trans (Eq.symm ((tNote_kq (by omega)).trans (xupd_ne (by omega))))⟩
  · have t9 := (tNote_99 (m := xupd (xupd m 296 n f) 297 n 0) (n := n) (w := sSto m n) (i := f) jn.2).2.2.2.2
    refine ⟨(tNote_kq (by omega)).trans ((xupd_ne (by omega)).trans (xupd_ne (by omega))), (tNote_kq (by omega)).trans ((xupd_ne (by omega)).trans (xupd_ne (by omega))), ?_, fun k hk => t9 q k hq hk⟩
    rw [tNote_98, if_neg hq]
    rfl
  · exact ⟨((xupd_ne (by omega)).trans xupd_eq).trans (Eq.symm ((tNote_kq (by omega)).trans ((xupd_ne (by omega)).trans xupd_eq))), xupd_eq.trans (Eq.symm ((tNote_kq (by omega)).trans xupd_eq))⟩
theorem Rep.noteF {t u m : xD} {s n : Nat} {f : Int} (h : Rep t s m) (hI : Inv m) (hn : n < nN m) (hJ : JAdd t u (18 + 89 * s + 5 * n + 1) (nJ m n) (m 292 6) (sSto m n) f) : (¬ f = 0 → Rep (xupd u (18 + 89 * s + 5 * n) 5 f) s (tNote (tSet m n f) n (sSto m n) f)) ∧ (f = 0 → Rep (xupd (xupd u (18 + 89 * s + 5 * n) 5 f) (18 + 89 * s + 5 * n) 6 0) s (tNote (tSet m n f) n (sSto m n) f)) := by
  have a := Rep.note h hI hn hJ
  unfold tSet
  refine ⟨fun c => ?_, fun c => ?_⟩
  · rw [if_neg c]; exact a.1
  · rw [if_pos c]; exact a.2
theorem c_apply {d : Nat} {g : xG} {t m : xD} {s : Nat} {n : Nat} {f : Int} (L : xLay g) (hs : s < 3) (hI : Inv m) (hR : Rep t s m) (hn : n < nN m) : xCall (d + 2) 18 [(2, (((18 + 89 * s + 5 * n) : Nat) : Int)), (0, m 292 6), (0, f)] g t (fun r g1 t1 => g1 = g ∧ r = none ∧ Rep t1 s (tNote (tSet m n f) n (sSto m n) f) ∧ Fr s t t1) := by
  show xOk (d + 2) 18 0 [(2, (((18 + 89 * s + 5 * n) : Nat) : Int)), (0, m 292 6), (0, f)] [] g t _
  have iNn_ := iNn hI
  refine xk_load rfl (p := 1) rfl rfl ?_
  refine xk_getf rfl (p := 4) rfl (xob ((ly_nm L hs (show n < 12 by omega)).1) (by decide)) (v := (2, ((((18 + 89 * s + 5 * n) + 1) : Nat) : Int))) (xsl2 rfl ((ly_nm L hs (show n < 12 by omega)).2.2)) ?_
  refine xk_load rfl (p := 5) rfl rfl ?_
  refine xk_load rfl (p := 6) rfl rfl ?_
  refine xk_callp rfl (p := 9) rfl (by decide) rfl (Nat.le_of_ble_eq_true rfl) (Nat.le_of_ble_eq_true rfl) (xrv ((ly_nm L hs (show n < 12 by omega)).1) (by decide)) (as := [(2, (((18 + 89 * s + 5 * n) : Nat) : Int))]) (r := [(0, m 292 6), (2, ((((18 + 89 * s + 5 * n) + 1) : Nat) : Int))]) rfl (v := (0, sSto m n)) (c_stored L hs hI hR hn) ?_
  refine xk_load rfl (p := 10) rfl rfl ?_
  refine xk_call rfl (p := 13) rfl (by decide) rfl (Nat.le_of_ble_eq_true rfl) (Nat.le_of_ble_eq_true rfl) (xrv ((ly_nm L hs (show n < 12 by omega)).2.1.1) (by decide)) (as := [(2, ((((18 + 89 * s + 5 * n) + 1) : Nat) : Int)), (0, m 292 6), (0, sSto m n), (0, f)]) (r := []) rfl (c_jadd (ly_nm L hs (show n < 12 by omega)).2.1 ((rJn hR hn).trans (iJn hI hn).1) (iJn hI hn).2 (by omega)) ?_
  rintro _ g v2 ⟨rfl, rfl, hJ⟩
  have fj : Fr s t v2 := fun a k hb => hJ.1 a k (by omega)
  refine xk_load rfl (p := 14) rfl rfl ?_
  refine xk_load rfl (p := 15) rfl rfl ?_
  refine xk_putf rfl (p := 18) rfl (xob ((ly_nm L hs (show n < 12 by omega)).1) (by decide)) rfl (by decide) (by decide) (fun h => absurd h (by decide)) (by omega) ?_
  refine xk_load rfl (p := 19) rfl rfl ?_
  refine xk_if rfl (p := 22) rfl (fun c19_1 => ?_) (fun c19_1 => ?_)
  · replace c19_1 : ¬ (f = 0) := c19_1
    refine xk_ret rfl (rfl) ?_
    exact ⟨rfl, rfl, (Rep.noteF hR hI hn hJ).1 (by assumption), (fj.up (by omega) (by omega))⟩
  · replace c19_1 : f = 0 := Decidable.not_not.mp c19_1
    refine xk_load rfl (p := 23) rfl rfl ?_
    refine xk_push rfl (p := 24) rfl ?_
    refine xk_putf rfl (p := 27) rfl (xob ((ly_nm L hs (show n < 12 by omega)).1) (by decide)) rfl (by decide) (by decide) (fun h => absurd h (by decide)) (by omega) ?_
    refine xk_ret rfl (rfl) ?_
    exact ⟨rfl, rfl, (Rep.noteF hR hI hn hJ).2 (by assumption), ((fj.up (by omega) (by omega)).up (by omega) (by omega))⟩

theorem tCom_e {m : xD} (h : sCom m = -1) : tCom m = (0, m) := if_pos h
theorem sRec_1 {m : xD} (h : ¬ sCom m = -1) (h2 : 0 < m 292 13) : sRec m = 1 ∧ sApp m = m 292 13 - 1 := ⟨if_pos ⟨h, h2⟩, if_pos ⟨h, h2⟩⟩
theorem sRec_0 {m : xD} (h : sCom m = -1 ∨ m 292 13 ≤ 0) : sRec m = 0 ∧ sApp m = 0 := ⟨if_neg (by omega), if_neg (by omega)⟩
theorem sRec_c {m : xD} : (sRec m = 0 ∧ (sCom m = -1 ∨ m 292 13 ≤ 0)) ∨ (sRec m = 1 ∧ ¬ sCom m = -1 ∧ 0 < m 292 13) := by
  by_cases c : ¬ sCom m = -1 ∧ 0 < m 292 13
  · exact .inr ⟨(sRec_1 c.1 c.2).1, c.1, c.2⟩
  · exact .inl ⟨(sRec_0 (by omega)).1, by omega⟩
/-- the first step: the record -/
theorem Rep.rec {t m : xD} {s : Nat} (h : Rep t s m) (hI : Inv m) (hc : ¬ sCom m = -1) (h0 : m 292 13 ≤ 0) : Rep (xupd (xupd t (5 + 89 * s) 8 1) (5 + 89 * s) 9 0) s (xupd m 292 13 (m 292 13 + 1)) := by
  have hN := (iNn hI).2
  have hd := sCom_done hI
  have e : sCom (xupd m 292 13 (m 292 13 + 1)) = sCom m := rfl
  have r := sRec_1 (m := xupd m 292 13 (m 292 13 + 1)) hc (by rw [xupd_eq]; omega)
  have fr : ∀ a k, ¬ (a = 5 + 89 * s ∧ (k = 8 ∨ k = 9)) → xupd (xupd t (5 + 89 * s) 8 1) (5 + 89 * s) 9 0 a k = t a k := fun a k hh => (xupd_ne (by omega)).trans (xupd_ne (by omega))
  refine ⟨?_, ?_, R3.fr (m := xupd m 292 13 (m 292 13 + 1)) h.2.2.1 (fun n k hn => fr _ _ (by omega)), R4.fr (m := xupd m 292 13 (m 292 13 + 1)) h.2.2.2.1 (fun n j k hn hj => fr _ _ (by omega)), R5.fr (m := xupd m 292 13 (m 292 13 + 1)) h.2.2.2.2.1 (fun d j k hd hj => fr _ _ (by omega)), R6.fr (m := xupd m 292 13 (m 292 13 + 1)) h.2.2.2.2.2.1 (fun j k hj => fr _ _ (by omega)), R7.fr (m := xupd m 292 13 (m 292 13 + 1)) h.2.2.2.2.2.2.1 (fun j k hj => fr _ _ (by omega)), R8.fr (m := xupd m 292 13 (m 292 13 + 1)) h.2.2.2.2.2.2.2 (fun j k hj => fr _ _ (by omega))⟩
  · refine ⟨(fr _ 6 (by omega)).trans h.1.1, (fr _ 7 (by omega)).trans h.1.2.1, ?_, ?_, (fr _ 10 (by omega)).trans h.1.2.2.2.2⟩
    · rw [r.1]
      exact (xupd_ne (by omega)).trans xupd_eq
    · rw [r.2]
      refine xupd_eq.trans ?_
      rw [xupd_eq]
      omega
  · intro hh
    exact (fr _ 11 (by omega)).trans (h.2.1 hh)
/-- applied has grown -/
theorem Rep.app1 {t m : xD} {s : Nat} {x y : Int} (h : Rep t s m) (hI : Inv m) (hc : ¬ sCom m = -1) (h0 : 0 < m 292 13) (hx : x = m 292 13) (hy : y = m 292 13 + 1) : Rep (xupd t (5 + 89 * s) 9 x) s (xupd m 292 13 y) := by
  subst hx hy
  have hN := (iNn hI).2
  have r := sRec_1 (m := xupd m 292 13 (m 292 13 + 1)) hc (by rw [xupd_eq]; omega)
  have r0 := sRec_1 hc h0
  have fr : ∀ a k, ¬ (a = 5 + 89 * s ∧ k = 9) → xupd t (5 + 89 * s) 9 (m 292 13) a k = t a k := fun a k hh => xupd_ne (by omega)
  refine ⟨?_, ?_, R3.fr (m := xupd m 292 13 (m 292 13 + 1)) h.2.2.1 (fun n k hn => fr _ _ (by omega)), R4.fr (m := xupd m 292 13 (m 292 13 + 1)) h.2.2.2.1 (fun n j k hn hj => fr _ _ (by omega)), R5.fr (m := xupd m 292 13 (m 292 13 + 1)) h.2.2.2.2.1 (fun d j k hd hj => fr _ _ (by omega)), R6.fr (m := xupd m 292 13 (m 292 13 + 1)) h.2.2.2.2.2.1 (fun j k hj => fr _ _ (by omega)), R7.fr (m := xupd m 292 13 (m 292 13 + 1)) h.2.2.2.2.2.2.1 (fun j k hj => fr _ _ (by omega)), R8.fr (m := xupd m 292 13 (m 292 13 + 1)) h.2.2.2.2.2.2.2 (fun j k hj => fr _ _ (by omega))⟩
  · refine ⟨(fr _ 6 (by omega)).trans h.1.1, (fr _ 7 (by omega)).trans h.1.2.1, ?_, ?_, (fr _ 10 (by omega)).trans h.1.2.2.2.2⟩
    · rw [r.1]
      exact ((fr _ 8 (by omega)).trans h.1.2.2.1).trans r0.1
    · rw [r.2]
      refine xupd_eq.trans ?_
      rw [xupd_eq]
      omega
  · intro hh
    exact (fr _ 11 (by omega)).trans (h.2.1 hh)
/-- the last step: the deal goes, time goes on -/
theorem Rep.fin {t m : xD} {s d : Nat} {x y : Int} (h : Rep t s m) (hI : Inv m) (hd : d < 4) (hc : sCom m = ((d : Nat) : Int)) : Rep (xupd (xupd (xupd (xupd t (5 + 89 * s) 8 0) (5 + 89 * s) 9 0) (78 + 89 * s + 4 * d) 5 (-1)) (5 + 89 * s) 7 x) s (xupd (xupd (xupd m 300 d 0) 292 6 x) 292 13 y) := by
  have hN := (iNn hI).2
  have hcom : sCom (xupd (xupd (xupd m 300 d 0) 292 6 x) 292 13 y) = -1 := sCom_nop (fun e he hh => by
    have h1 : 0 < xupd m 300 d 0 300 e := hh.1
    rw [xupd_c] at h1
    by_cases ce : e = d
    · rw [if_pos ce] at h1
      exact absurd h1 (by decide)
    · rw [if_neg ce] at h1
      have := sCom_one hI he ⟨h1, hh.2⟩
      omega)
  have r := sRec_0 (m := xupd (xupd (xupd m 300 d 0) 292 6 x) 292 13 y) (.inl hcom)
  have fr : ∀ a k, ¬ (a = 5 + 89 * s ∧ (k = 7 ∨ k = 8 ∨ k = 9)) → ¬ (a = 78 + 89 * s + 4 * d ∧ k = 5) → xupd (xupd (xupd (xupd t (5 + 89 * s) 8 0) (5 + 89 * s) 9 0) (78 + 89 * s + 4 * d) 5 (-1)) (5 + 89 * s) 7 x a k = t a k := fun a k hh h2 => (xupd_ne (by omega)).trans ((xupd_ne (by omega)).trans ((xupd_ne (by omega)).trans (xupd_ne (by omega))))
  refine ⟨?_, ?_, R3.fr (m := xupd (xupd (xupd m 300 d 0) 292 6 x) 292 13 y) h.2.2.1 (fun n k hn => ?_), R4.fr (m := xupd (xupd (xupd m 300 d 0) 292 6 x) 292 13 y) h.2.2.2.1 (fun n j k hn hj => ?_), ?_, R6.fr (m := xupd (xupd (xupd m 300 d 0) 292 6 x) 292 13 y) h.2.2.2.2.2.1 (fun j k hj => fr _ _ (by omega) (by omega)), R7.fr (m := xupd (xupd (xupd m 300 d 0) 292 6 x) 292 13 y) h.2.2.2.2.2.2.1 (fun j k hj => fr _ _ (by omega) (by omega)), R8.fr (m := xupd (xupd (xupd m 300 d 0) 292 6 x) 292 13 y) h.2.2.2.2.2.2.2 (fun j k hj => fr _ _ (by omega) (by omega))⟩
  · refine ⟨(fr _ 6 (by omega) (by omega)).trans h.1.1, xupd_eq, ?_, ?_, (fr _ 10 (by omega) (by omega)).trans h.1.2.2.2.2⟩
    · rw [r.1]
      exact (xupd_ne (by omega)).trans ((xupd_ne (by omega)).trans ((xupd_ne (by omega)).trans xupd_eq))
    · rw [r.2]
      exact (xupd_ne (by omega)).trans ((xupd_ne (by omega)).trans xupd_eq)
  · intro hh
    exact (fr _ 11 (by omega) (by omega)).trans (h.2.1 hh)
  · have hn : n < nN m := hn
    exact fr _ _ (by omega) (by omega)
  · have hn : n < nN m := hn
    exact fr _ _ (by omega) (by omega)
  · intro e he
    have h5 := h.2.2.2.2.1 e he
    by_cases ce : e = d
    · subst ce
      refine ⟨?_, fun hk => ?_⟩
      · refine ((xupd_ne (by omega)).trans xupd_eq).trans (Eq.symm (if_pos ?_))
        exact xupd_eq
      · have hk : 0 < xupd m 300 e 0 300 e := hk
        rw [xupd_eq] at hk
        exact absurd hk (by decide)
    · have e1 : xupd m 300 d 0 300 e = m 300 e := xupd_ne (by omega)
      refine ⟨?_, fun hk => ?_⟩
      · refine (fr _ 5 (by omega) (by omega)).trans (h5.1.trans ?_)
        show sPha m e = (if xupd m 300 d 0 300 e = 0 then -1 else m 302 e)
        rw [e1]
        rfl
      · have hk : 0 < xupd m 300 d 0 300 e := hk
        rw [e1] at hk
        have q := h5.2 hk
        refine ⟨(fr _ 4 (by omega) (by omega)).trans (q.1.trans ?_), (fr _ 3 (by omega) (by omega)).trans q.2.1, fun r hr => ?_⟩
        · show m 300 e - 1 = xupd m 300 d 0 300 e - 1
          rw [e1]
        · have q3 := q.2.2 r hr
          exact ⟨(fr _ _ (by omega) (by omega)).trans q3.1, (fr _ _ (by omega) (by omega)).trans q3.2.1, (fr _ _ (by omega) (by omega)).trans q3.2.2⟩
theorem sApp_ap {m : xD} {d r : Nat} : sApp (tApp m d r) = sApp m := (sRec_cg (sCom_cg (fun e he => by rw [tApp_kp 300 e (by decide), tApp_kp 302 e (by decide)])) (tApp_kp 292 13 (by decide))).2
theorem tApp_com {m : xD} {d r : Nat} : sCom (tApp m d r) = sCom m := sCom_cg (fun e he => by rw [tApp_kp 300 e (by decide), tApp_kp 302 e (by decide)])
theorem c_stepOfDeal {d : Nat} {g : xG} {t m : xD} {s : Nat} (L : xLay g) (hs : s < 3) (hI : Inv m) (hR : Rep t s m) : xCall (d + 3) 53 [(2, (((5 + 89 * s) : Nat) : Int))] g t (zQ s g t (some (0, (tCom m).1), (tCom m).2)) := by
  show xOk (d + 3) 53 0 [(2, (((5 + 89 * s) : Nat) : Int)), (3, 0), (3, 0)] [] g t _
  have iNn_ := iNn hI
  have sDone_ := sCom_done hI
  have rec_ := sRec_c (m := m)
  have sApp_ := sApp_rng hI
  have ap_ := fun h h2 => (sRec_1 (m := m) h h2).2
  refine xk_load rfl (p := 1) rfl rfl ?_
  refine xk_callp rfl (p := 4) rfl (by decide) rfl (Nat.le_of_ble_eq_true rfl) (Nat.le_of_ble_eq_true rfl) (xrv (ly_st L hs) (by decide)) (as := [(2, (((5 + 89 * s) : Nat) : Int))]) (r := []) rfl (v := (0, sCom m)) (c_committing L hs hI hR) ?_
  have sCom_ := sCom_rng (m := m)
  have sCat_ := sCom_at (m := m)
  refine xk_store rfl (p := 5) rfl (by decide) (Nat.le_of_ble_eq_true rfl) (ls' := [(2, (((5 + 89 * s) : Nat) : Int)), (0, sCom m), (3, 0)]) rfl ?_
  refine xk_load rfl (p := 6) rfl rfl ?_
  refine xk_if rfl (p := 9) rfl (fun c6_1 => ?_) (fun c6_1 => ?_)
  · replace c6_1 : 0 ≤ sCom m := c6_1
    refine xk_load rfl (p := 12) rfl rfl ?_
    refine xk_getf rfl (p := 15) rfl (xob (ly_st L hs) (by decide)) (v := (2, (((7 + 89 * s) : Nat) : Int))) (xsl2 rfl (ly_s1 L hs)) ?_
    refine xk_load rfl (p := 16) rfl rfl ?_
    refine xk_aldi rfl (p := 17) rfl (show 0 ≤ sCom m by omega) (v := (2, (((78 + 89 * s + 4 * ((sCom m).toNat)) : Nat) : Int))) (xal2 (ly_sd L hs) (by decide) (show (sCom m).toNat < 4 by omega) (ly_de L hs (show (sCom m).toNat < 4 by omega))) ?_
    refine xk_store rfl (p := 18) rfl (by decide) (Nat.le_of_ble_eq_true rfl) (ls' := [(2, (((5 + 89 * s) : Nat) : Int)), (0, sCom m), (2, (((78 + 89 * s + 4 * ((sCom m).toNat)) : Nat) : Int))]) rfl ?_
    refine xk_load rfl (p := 19) rfl rfl ?_
    refine xk_getf rfl (p := 22) rfl (xob (ly_st L hs) (by decide)) (v := (0, sRec m)) (xsl0 rfl (rRec hR)) ?_
    refine xk_if rfl (p := 25) rfl (fun c22_2 => ?_) (fun c22_2 => ?_)
    · replace c22_2 : ¬ (sRec m = 0) := c22_2
      refine xk_load rfl (p := 39) rfl rfl ?_
      refine xk_getf rfl (p := 42) rfl (xob (ly_st L hs) (by decide)) (v := (0, sApp m)) (xsl0 rfl (rApp hR)) ?_
      refine xk_load rfl (p := 43) rfl rfl ?_
      refine xk_getf rfl (p := 46) rfl (xob ((ly_dl L hs (show (sCom m).toNat < 4 by omega)).1) (by decide)) (v := (0, ((nR m ((sCom m).toNat) : Nat) : Int))) (xsl0 rfl ((rRow hR (show (sCom m).toNat < 4 by omega) (show 0 < m 300 ((sCom m).toNat) by omega)).trans (iRn hI (show (sCom m).toNat < 4 by omega)).1)) ?_
      have iRn_ := iRn hI (show (sCom m).toNat < 4 by omega)
      refine xk_icmp rfl (p := 49) rfl (fun c46_3 => ?_) (fun c46_3 => ?_)
      · replace c46_3 : ((nR m ((sCom m).toNat) : Nat) : Int) ≤ sApp m := c46_3
        refine xk_load rfl (p := 93) rfl rfl ?_
        refine xk_push rfl (p := 94) rfl ?_
        refine xk_putf rfl (p := 97) rfl (xob (ly_st L hs) (by decide)) rfl (by decide) (by decide) (fun _ => by simp) (by omega) ?_
        refine xk_load rfl (p := 98) rfl rfl ?_
        refine xk_push rfl (p := 99) rfl ?_
        refine xk_putf rfl (p := 102) rfl (xob (ly_st L hs) (by decide)) rfl (by decide) (by decide) (fun h => absurd h (by decide)) (by omega) ?_
        refine xk_load rfl (p := 103) rfl rfl ?_
        refine xk_push rfl (p := 104) rfl ?_
        refine xk_putf rfl (p := 107) rfl (xob ((ly_dl L hs (show (sCom m).toNat < 4 by omega)).1) (by decide)) rfl (by decide) (by decide) (fun h => absurd h (by decide)) (by omega) ?_
        refine xk_load rfl (p := 108) rfl rfl ?_
        refine xk_dup rfl (p := 109) rfl (show ¬ (2 : Nat) = 1 by decide) ?_
        refine xk_getf rfl (p := 112) rfl (xob (ly_st L hs) (by decide)) (v := (0, m 292 6)) (xsl0 rfl ((xupd_ne (by omega)).trans (((xupd_ne (by omega)).trans (((xupd_ne (by omega)).trans (rT hR))))))) ?_
        refine xk_push rfl (p := 113) rfl ?_
        refine xk_bin rfl (p := 114) rfl (z := xadd (m 292 6) 1) (rfl) ?_
        refine xk_putf rfl (p := 117) rfl (xob (ly_st L hs) (by decide)) rfl (by decide) (by decide) (fun h => absurd h (by decide)) (by omega) ?_
        refine xk_push rfl (p := 118) rfl ?_
        refine xk_ret rfl (rfl) ?_
        have ha_ : sApp m = m 292 13 - 1 := (sRec_1 (by omega) (by omega)).2
        have e : tCom m = (1, xupd (xupd (xupd m 300 (sCom m).toNat 0) 292 6 (xadd (m 292 6) 1)) 292 13 (m 292 13 + 1)) := by
          unfold tCom
          rw [if_neg (by omega), if_pos (by omega)]
        exact zRet (show (some ((0, (tCom m).1) : xV), (tCom m).2) = (some (0, 1), xupd (xupd (xupd m 300 (sCom m).toNat 0) 292 6 (xadd (m 292 6) 1)) 292 13 (m 292 13 + 1)) from by rw [e]) (hR.fin hI (by omega) (by omega)) ((((Fr.rf.up (by omega) (by omega)).up (by omega) (by omega)).up (by omega) (by omega)).up (by omega) (by omega))
      · replace c46_3 : ¬ (((nR m ((sCom m).toNat) : Nat) : Int) ≤ sApp m) := c46_3
        refine xk_load rfl (p := 50) rfl rfl ?_
        refine xk_getf rfl (p := 53) rfl (xob (ly_st L hs) (by decide)) (v := (2, (((6 + 89 * s) : Nat) : Int))) (xsl2 rfl (ly_s0 L hs)) ?_
        refine xk_load rfl (p := 54) rfl rfl ?_
        refine xk_getf rfl (p := 57) rfl (xob ((ly_dl L hs (show (sCom m).toNat < 4 by omega)).1) (by decide)) (v := (2, ((((78 + 89 * s + 4 * ((sCom m).toNat)) + 1) : Nat) : Int))) (xsl2 rfl ((ly_dl L hs (show (sCom m).toNat < 4 by omega)).2.2.2.2.1)) ?_
        refine xk_load rfl (p := 58) rfl rfl ?_
        refine xk_getf rfl (p := 61) rfl (xob (ly_st L hs) (by decide)) (v := (0, sApp m)) (xsl0 rfl (rApp hR)) ?_
        refine xk_aldi rfl (p := 62) rfl (show 0 ≤ sApp m by omega) (v := (0, m 303 (12 * ((sCom m).toNat) + ((sApp m).toNat)))) ((xal0 ((ly_dl L hs (show (sCom m).toNat < 4 by omega)).2.1) (show (sApp m).toNat < 4 by omega)).trans (congrArg (fun z => some (0, z)) (rR1 hR (show (sCom m).toNat < 4 by omega) (show 0 < m 300 ((sCom m).toNat) by omega) (show (((sApp m).toNat : Nat) : Int) < m 301 ((sCom m).toNat) by omega)))) ?_
        have iRo_ := iRo hI (show (sCom m).toNat < 4 by omega) (show 0 < m 300 ((sCom m).toNat) by omega) (show (sApp m).toNat < nR m ((sCom m).toNat) by omega)
        refine xk_aldi rfl (p := 63) rfl (show 0 ≤ m 303 (12 * ((sCom m).toNat) + ((sApp m).toNat)) by omega) (v := (2, (((18 + 89 * s + 5 * ((m 303 (12 * ((sCom m).toNat) + ((sApp m).toNat))).toNat)) : Nat) : Int))) (xal2 (ly_sn L hs) (by decide) (show (m 303 (12 * ((sCom m).toNat) + ((sApp m).toNat))).toNat < 12 by omega) (ly_ne L hs (show (m 303 (12 * ((sCom m).toNat) + ((sApp m).toNat))).toNat < 12 by omega))) ?_
        refine xk_load rfl (p := 64) rfl rfl ?_
        refine xk_getf rfl (p := 67) rfl (xob (ly_st L hs) (by decide)) (v := (0, m 292 6)) (xsl0 rfl (rT hR)) ?_
        refine xk_load rfl (p := 68) rfl rfl ?_
        refine xk_getf rfl (p := 71) rfl (xob ((ly_dl L hs (show (sCom m).toNat < 4 by omega)).1) (by decide)) (v := (2, ((((78 + 89 * s + 4 * ((sCom m).toNat)) + 3) : Nat) : Int))) (xsl2 rfl ((ly_dl L hs (show (sCom m).toNat < 4 by omega)).2.2.2.2.2.2)) ?_
        refine xk_load rfl (p := 72) rfl rfl ?_
        refine xk_getf rfl (p := 75) rfl (xob (ly_st L hs) (by decide)) (v := (0, sApp m)) (xsl0 rfl (rApp hR)) ?_
        refine xk_aldi rfl (p := 76) rfl (show 0 ≤ sApp m by omega) (v := (0, m 303 (12 * ((sCom m).toNat) + 8 + ((sApp m).toNat)))) ((xal0 ((ly_dl L hs (show (sCom m).toNat < 4 by omega)).2.2.2.1) (show (sApp m).toNat < 4 by omega)).trans (congrArg (fun z => some (0, z)) (rR3 hR (show (sCom m).toNat < 4 by omega) (show 0 < m 300 ((sCom m).toNat) by omega) (show (((sApp m).toNat : Nat) : Int) < m 301 ((sCom m).toNat) by omega)))) ?_
        have ha_ : sApp m = m 292 13 - 1 := (sRec_1 (by omega) (by omega)).2
        refine xk_call rfl (p := 79) rfl (by decide) rfl (Nat.le_of_ble_eq_true rfl) (Nat.le_of_ble_eq_true rfl) (xrv ((ly_nm L hs (show (m 303 (12 * ((sCom m).toNat) + ((sApp m).toNat))).toNat < 12 by omega)).1) (by decide)) (as := [(2, (((18 + 89 * s + 5 * ((m 303 (12 * ((sCom m).toNat) + ((sApp m).toNat))).toNat)) : Nat) : Int)), (0, m 292 6), (0, m 303 (12 * ((sCom m).toNat) + 8 + ((sApp m).toNat)))]) (r := []) rfl (c_apply L hs hI hR (by omega)) ?_
        rintro _ g v6 ⟨rfl, rfl, hV6, hF6⟩
        have hI6 : Inv (tApp m (sCom m).toNat (sApp m).toNat) := hI.app (by omega) (by omega) (by omega)
        replace hV6 : Rep v6 s (tApp m (sCom m).toNat (sApp m).toNat) := hV6
        refine xk_load rfl (p := 80) rfl rfl ?_
        refine xk_dup rfl (p := 81) rfl (show ¬ (2 : Nat) = 1 by decide) ?_
        refine xk_getf rfl (p := 84) rfl (xob (ly_st L hs) (by decide)) (v := (0, sApp m)) (xsl0 rfl ((rApp hV6).trans sApp_ap)) ?_
        refine xk_push rfl (p := 85) rfl ?_
        refine xk_bin rfl (p := 86) rfl (z := (sApp m + 1)) (congrArg some (xadd_r (by omega) (by omega))) ?_
        refine xk_putf rfl (p := 89) rfl (xob (ly_st L hs) (by decide)) rfl (by decide) (by decide) (fun h => absurd h (by decide)) (by omega) ?_
        refine xk_goto rfl ?_
        refine xk_push rfl (p := 118) rfl ?_
        refine xk_ret rfl (rfl) ?_
        have e13 : (tApp m (sCom m).toNat (sApp m).toNat) 292 13 = m 292 13 := tApp_kp 292 13 (by decide)
        have e : tCom m = (1, xupd (tApp m (sCom m).toNat (sApp m).toNat) 292 13 (m 292 13 + 1)) := by
          unfold tCom
          rw [if_neg (by omega), if_neg (by omega), if_neg (by omega), ha_]
        exact zRet (show (some ((0, (tCom m).1) : xV), (tCom m).2) = (some (0, 1), xupd (tApp m (sCom m).toNat (sApp m).toNat) 292 13 (m 292 13 + 1)) from by rw [e]) (hV6.app1 hI6 (by rw [tApp_com]; omega) (by omega) (by omega) (by omega)) (hF6.up (by omega) (by omega))
    · replace c22_2 : sRec m = 0 := Decidable.not_not.mp c22_2
      refine xk_load rfl (p := 26) rfl rfl ?_
      refine xk_push rfl (p := 27) rfl ?_
      refine xk_putf rfl (p := 30) rfl (xob (ly_st L hs) (by decide)) rfl (by decide) (by decide) (fun _ => by simp) (by omega) ?_
      refine xk_load rfl (p := 31) rfl rfl ?_
      refine xk_push rfl (p := 32) rfl ?_
      refine xk_putf rfl (p := 35) rfl (xob (ly_st L hs) (by decide)) rfl (by decide) (by decide) (fun h => absurd h (by decide)) (by omega) ?_
      refine xk_goto rfl ?_
      refine xk_push rfl (p := 118) rfl ?_
      refine xk_ret rfl (rfl) ?_
      have e : tCom m = (1, xupd m 292 13 (m 292 13 + 1)) := by
        unfold tCom
        rw [if_neg (by omega), if_neg (by omega), if_pos (by omega)]
      exact zRet (show (some ((0, (tCom m).1) : xV), (tCom m).2) = (some (0, 1), xupd m 292 13 (m 292 13 + 1)) from by rw [e]) (hR.rec hI (by omega) (by omega)) ((Fr.rf.up (by omega) (by omega)).up (by omega) (by omega))
  · replace c6_1 : ¬ (0 ≤ sCom m) := c6_1
    refine xk_push rfl (p := 10) rfl ?_
    refine xk_ret rfl (rfl) ?_
    exact zRet (show (some ((0, (tCom m).1) : xV), (tCom m).2) = (some (0, 0), m) from by rw [tCom_e (by omega)]) hR Fr.rf
