/-! THE CLASS: BECOME, IMAGE, UNDO, AFTER, ENDS -/
/-- the cells of a part of the store s are now as the store q's were -/
def Cn (t u : xD) (s q n : Nat) : Prop := (∀ k, 1 ≤ k → k ≤ 7 → u (18 + 89 * s + 5 * n) k = t (18 + 89 * q + 5 * n) k) ∧ u (18 + 89 * s + 5 * n + 1) 3 = t (18 + 89 * q + 5 * n + 1) 3 ∧ ∀ k, k < 6 → u (18 + 89 * s + 5 * n + 1 + 1) k = t (18 + 89 * q + 5 * n + 1 + 1) k ∧ u (18 + 89 * s + 5 * n + 1 + 2) k = t (18 + 89 * q + 5 * n + 1 + 2) k ∧ u (18 + 89 * s + 5 * n + 1 + 3) k = t (18 + 89 * q + 5 * n + 1 + 3) k
def Cd (t u : xD) (s q d : Nat) : Prop := (∀ k, 3 ≤ k → k ≤ 5 → u (78 + 89 * s + 4 * d) k = t (78 + 89 * q + 4 * d) k) ∧ ∀ k, k < 4 → u (78 + 89 * s + 4 * d + 1) k = t (78 + 89 * q + 4 * d + 1) k ∧ u (78 + 89 * s + 4 * d + 2) k = t (78 + 89 * q + 4 * d + 2) k ∧ u (78 + 89 * s + 4 * d + 3) k = t (78 + 89 * q + 4 * d + 3) k
def Cp (t u : xD) (b s q : Nat) : Prop := u (b + 89 * s) 3 = t (b + 89 * q) 3 ∧ ∀ k, k < 10 → u (b + 89 * s + 1) k = t (b + 89 * q + 1) k ∧ u (b + 89 * s + 2) k = t (b + 89 * q + 2) k
theorem c_nbecome {d : Nat} {s q n : Nat} {g : xG} {t : xD} (L : xLay g) (hs : s < 3) (hq : q < 3) (hsq : s ≠ q) (hn : n < 12) : xCall (d + 2) 20 [(2, (((18 + 89 * s + 5 * n) : Nat) : Int)), (2, (((18 + 89 * q + 5 * n) : Nat) : Int))] g t (fun r g1 t1 => g1 = g ∧ r = none ∧ Cn t t1 s q n ∧ ∀ a k, ¬ (18 + 89 * s + 5 * n ≤ a ∧ a < 23 + 89 * s + 5 * n) → t1 a k = t a k) := by
  show xOk (d + 2) 20 0 [(2, (((18 + 89 * s + 5 * n) : Nat) : Int)), (2, (((18 + 89 * q + 5 * n) : Nat) : Int))] [] g t _
  refine xk_load rfl (p := 1) rfl rfl ?_
  refine xk_load rfl (p := 2) rfl rfl ?_
  refine xk_getf rfl (p := 5) rfl (xob ((ly_nm L hq (show n < 12 by omega)).1) (by decide)) (v := (1, t (18 + 89 * q + 5 * n) 1)) (rfl) ?_
  refine xk_putf rfl (p := 8) rfl (xob ((ly_nm L hs (show n < 12 by omega)).1) (by decide)) rfl (by decide) (by decide) (fun h => absurd h (by decide)) (by omega) ?_
  refine xk_load rfl (p := 9) rfl rfl ?_
  refine xk_load rfl (p := 10) rfl rfl ?_
  refine xk_getf rfl (p := 13) rfl (xob ((ly_nm L hq (show n < 12 by omega)).1) (by decide)) (v := (0, t (18 + 89 * q + 5 * n) 2)) (xsl0 rfl (xupd_ne (by omega))) ?_
  refine xk_putf rfl (p := 16) rfl (xob ((ly_nm L hs (show n < 12 by omega)).1) (by decide)) rfl (by decide) (by decide) (fun h => absurd h (by decide)) (by omega) ?_
  refine xk_load rfl (p := 17) rfl rfl ?_
  refine xk_load rfl (p := 18) rfl rfl ?_
  refine xk_getf rfl (p := 21) rfl (xob ((ly_nm L hq (show n < 12 by omega)).1) (by decide)) (v := (0, t (18 + 89 * q + 5 * n) 3)) (xsl0 rfl ((xupd_ne (by omega)).trans (xupd_ne (by omega)))) ?_
  refine xk_putf rfl (p := 24) rfl (xob ((ly_nm L hs (show n < 12 by omega)).1) (by decide)) rfl (by decide) (by decide) (fun h => absurd h (by decide)) (by omega) ?_
  refine xk_load rfl (p := 25) rfl rfl ?_
  refine xk_load rfl (p := 26) rfl rfl ?_
  refine xk_getf rfl (p := 29) rfl (xob ((ly_nm L hq (show n < 12 by omega)).1) (by decide)) (v := (0, t (18 + 89 * q + 5 * n) 4)) (xsl0 rfl ((xupd_ne (by omega)).trans (((xupd_ne (by omega)).trans (xupd_ne (by omega)))))) ?_
  refine xk_putf rfl (p := 32) rfl (xob ((ly_nm L hs (show n < 12 by omega)).1) (by decide)) rfl (by decide) (by decide) (fun h => absurd h (by decide)) (by omega) ?_
  refine xk_load rfl (p := 33) rfl rfl ?_
  refine xk_load rfl (p := 34) rfl rfl ?_
  refine xk_getf rfl (p := 37) rfl (xob ((ly_nm L hq (show n < 12 by omega)).1) (by decide)) (v := (0, t (18 + 89 * q + 5 * n) 5)) (xsl0 rfl ((xupd_ne (by omega)).trans (((xupd_ne (by omega)).trans (((xupd_ne (by omega)).trans (xupd_ne (by omega)))))))) ?_
  refine xk_putf rfl (p := 40) rfl (xob ((ly_nm L hs (show n < 12 by omega)).1) (by decide)) rfl (by decide) (by decide) (fun h => absurd h (by decide)) (by omega) ?_
  refine xk_load rfl (p := 41) rfl rfl ?_
  refine xk_load rfl (p := 42) rfl rfl ?_
  refine xk_getf rfl (p := 45) rfl (xob ((ly_nm L hq (show n < 12 by omega)).1) (by decide)) (v := (0, t (18 + 89 * q + 5 * n) 6)) (xsl0 rfl ((xupd_ne (by omega)).trans (((xupd_ne (by omega)).trans (((xupd_ne (by omega)).trans (((xupd_ne (by omega)).trans (xupd_ne (by omega)))))))))) ?_
  refine xk_putf rfl (p := 48) rfl (xob ((ly_nm L hs (show n < 12 by omega)).1) (by decide)) rfl (by decide) (by decide) (fun h => absurd h (by decide)) (by omega) ?_
  refine xk_load rfl (p := 49) rfl rfl ?_
  refine xk_load rfl (p := 50) rfl rfl ?_
  refine xk_getf rfl (p := 53) rfl (xob ((ly_nm L hq (show n < 12 by omega)).1) (by decide)) (v := (0, t (18 + 89 * q + 5 * n) 7)) (xsl0 rfl ((xupd_ne (by omega)).trans (((xupd_ne (by omega)).trans (((xupd_ne (by omega)).trans (((xupd_ne (by omega)).trans (((xupd_ne (by omega)).trans (xupd_ne (by omega)))))))))))) ?_
  refine xk_putf rfl (p := 56) rfl (xob ((ly_nm L hs (show n < 12 by omega)).1) (by decide)) rfl (by decide) (by decide) (fun h => absurd h (by decide)) (by omega) ?_
  refine xk_load rfl (p := 57) rfl rfl ?_
  refine xk_getf rfl (p := 60) rfl (xob ((ly_nm L hs (show n < 12 by omega)).1) (by decide)) (v := (2, ((((18 + 89 * s + 5 * n) + 1) : Nat) : Int))) (xsl2 rfl ((ly_nm L hs (show n < 12 by omega)).2.2)) ?_
  refine xk_load rfl (p := 61) rfl rfl ?_
  refine xk_getf rfl (p := 64) rfl (xob ((ly_nm L hq (show n < 12 by omega)).1) (by decide)) (v := (2, ((((18 + 89 * q + 5 * n) + 1) : Nat) : Int))) (xsl2 rfl ((ly_nm L hq (show n < 12 by omega)).2.2)) ?_
  refine xk_call rfl (p := 67) rfl (by decide) rfl (Nat.le_of_ble_eq_true rfl) (Nat.le_of_ble_eq_true rfl) (xrv ((ly_nm L hs (show n < 12 by omega)).2.1.1) (by decide)) (as := [(2, ((((18 + 89 * s + 5 * n) + 1) : Nat) : Int)), (2, ((((18 + 89 * q + 5 * n) + 1) : Nat) : Int))]) (r := []) rfl (m_jbecome (ly_nm L hs (show n < 12 by omega)).2.1 (ly_nm L hq (show n < 12 by omega)).2.1 (by omega) (by omega) (by omega)) ?_
  rintro _ g v1 ⟨rfl, rfl, ev1⟩
  refine xk_ret rfl (rfl) ?_
  refine ⟨rfl, rfl, ⟨fun k h1 h2 => ?_, ?_, fun k hk => ⟨?_, ?_, ?_⟩⟩, fun a k ha => ?_⟩
  · rw [ev1]
    rcases (by omega : k = 1 ∨ k = 2 ∨ k = 3 ∨ k = 4 ∨ k = 5 ∨ k = 6 ∨ k = 7) with rfl | rfl | rfl | rfl | rfl | rfl | rfl <;> simp (disch := omega) only [xcpy_ne, xupd_ne, xupd_eq]
  · rw [ev1]
    simp (disch := omega) only [xcpy_ne, xupd_ne, xupd_eq]
  · rw [ev1]
    simp (disch := omega) only [xcpy_ne, xupd_ne, xcpy_eq]
    exact congrArg _ (by omega)
  · rw [ev1]
    simp (disch := omega) only [xcpy_ne, xupd_ne, xcpy_eq]
    exact congrArg _ (by omega)
  · rw [ev1]
    simp (disch := omega) only [xcpy_ne, xupd_ne, xcpy_eq]
    exact congrArg _ (by omega)
  · rw [ev1]
    simp (disch := omega) only [xcpy_ne, xupd_ne]

theorem d_become {s q n d : Nat} {g : xG} {t : xD} (L : xLay g) (hs : s < 3) (hq : q < 3) (hsq : s ≠ q) (hn : n < 4) : xCall (d + 1) 7 [(2, (((78 + 89 * s + 4 * n) : Nat) : Int)), (2, (((78 + 89 * q + 4 * n) : Nat) : Int))] g t (fun r g1 t1 => g1 = g ∧ r = none ∧ Cd t t1 s q n ∧ ∀ a k, ¬ (78 + 89 * s + 4 * n ≤ a ∧ a < 82 + 89 * s + 4 * n) → t1 a k = t a k) := by
  refine xCall_mono (m_dbecome (ly_dl L hs hn) (ly_dl L hq hn) (by omega) (by omega) (by omega)) ?_
  rintro _ g v1 ⟨rfl, rfl, ev1⟩
  refine ⟨rfl, rfl, ⟨fun k h1 h2 => ?_, fun k hk => ⟨?_, ?_, ?_⟩⟩, fun a k ha => ?_⟩
  · rw [ev1]
    rcases (by omega : k = 3 ∨ k = 4 ∨ k = 5) with rfl | rfl | rfl <;> simp (disch := omega) only [xcpy_ne, xupd_ne, xupd_eq]
  · rw [ev1]
    simp (disch := omega) only [xcpy_ne, xupd_ne, xcpy_eq]
    exact congrArg _ (by omega)
  · rw [ev1]
    simp (disch := omega) only [xcpy_ne, xupd_ne, xcpy_eq]
    exact congrArg _ (by omega)
  · rw [ev1]
    simp (disch := omega) only [xcpy_ne, xupd_ne, xcpy_eq]
    exact congrArg _ (by omega)
  · rw [ev1]
    simp (disch := omega) only [xcpy_ne, xupd_ne]
theorem p_become {s q b d : Nat} {g : xG} {t : xD} (h1 : xPr g (b + 89 * s)) (h2 : xPr g (b + 89 * q)) (hb : 2 ≤ b) (hsq : s ≠ q) : xCall (d + 1) 28 [(2, (((b + 89 * s) : Nat) : Int)), (2, (((b + 89 * q) : Nat) : Int))] g t (fun r g1 t1 => g1 = g ∧ r = none ∧ Cp t t1 b s q ∧ ∀ a k, ¬ ((a = b + 89 * s ∧ k = 3) ∨ a = b + 89 * s + 1 ∨ a = b + 89 * s + 2) → t1 a k = t a k) := by
  refine xCall_mono (m_pbecome h1 h2 (by omega) (by omega) (by omega)) ?_
  rintro _ g v1 ⟨rfl, rfl, ev1⟩
  refine ⟨rfl, rfl, ⟨?_, fun k hk => ⟨?_, ?_⟩⟩, fun a k ha => ?_⟩
  · rw [ev1]
    simp (disch := omega) only [xcpy_ne, xupd_ne, xupd_eq]
  · rw [ev1]
    simp (disch := omega) only [xcpy_ne, xupd_ne, xcpy_eq]
    exact congrArg _ (by omega)
  · rw [ev1]
    simp (disch := omega) only [xcpy_ne, xupd_ne, xcpy_eq]
    exact congrArg _ (by omega)
  · rw [ev1]
    simp (disch := omega) only [xcpy_ne, xupd_ne]
/-- what a store says moves over with its cells -/
theorem Rep.copy {t u m : xD} {s q : Nat} (h : Rep t q m) (hI : Inv m) (h0 : ∀ k, 6 ≤ k → k ≤ 11 → u (5 + 89 * s) k = t (5 + 89 * q) k) (hn : ∀ n, n < 12 → Cn t u s q n) (hd : ∀ d, d < 4 → Cd t u s q d) (h1 : Cp t u 8 s q) (h2 : Cp t u 11 s q) (h3 : Cp t u 14 s q) (hm : u (8 + 89 * s) 2 = 5 ∧ u (11 + 89 * s) 2 = 10 ∧ u (14 + 89 * s) 2 = 8) : Rep u s m := by
  have hN := (iNn hI).2
  refine ⟨?_, ?_, ?_, ?_, ?_, ?_, ?_, ?_⟩
  · have := h.1
    unfold R1 at this ⊢
    rw [h0 6 (by decide) (by decide), h0 7 (by decide) (by decide), h0 8 (by decide) (by decide), h0 9 (by decide) (by decide), h0 10 (by decide) (by decide)]
    exact this
  · intro e
    rw [h0 11 (by decide) (by decide)]
    exact h.2.1 e
  · intro n hh
    have a := (hn n (by omega)).1
    have b := h.2.2.1 n hh
    rw [a 1 (by decide) (by decide), a 2 (by decide) (by decide), a 3 (by decide) (by decide), a 4 (by decide) (by decide), a 5 (by decide) (by decide), a 6 (by decide) (by decide), a 7 (by decide) (by decide)]
    exact b
  · intro n hh
    have a := hn n (by omega)
    have b := h.2.2.2.1 n hh
    have j := iJ hI hh
    refine ⟨a.2.1.trans b.1, fun k hk => ?_⟩
    have c := a.2.2 k (by omega)
    have e := b.2 k hk
    exact ⟨c.1.trans e.1, c.2.1.trans e.2.1, c.2.2.trans e.2.2⟩
  · intro d hh
    have a := hd d hh
    have b := h.2.2.2.2.1 d hh
    have i := iD hI hh
    refine ⟨(a.1 5 (by decide) (by decide)).trans b.1, fun hk => ⟨(a.1 4 (by decide) (by decide)).trans (b.2 hk).1, (a.1 3 (by decide) (by decide)).trans (b.2 hk).2.1, fun r hr => ?_⟩⟩
    have c := a.2 r (by omega)
    have e := (b.2 hk).2.2 r hr
    exact ⟨c.1.trans e.1, c.2.1.trans e.2.1, c.2.2.trans e.2.2⟩
  · have b := h.2.2.2.2.2.1
    have i := iS hI
    refine ⟨hm.1, h1.1.trans b.2.1, fun k hk => ?_⟩
    have c := h1.2 k (by omega)
    exact ⟨c.1.trans (b.2.2 k hk).1, c.2.trans (b.2.2 k hk).2⟩
  · have b := h.2.2.2.2.2.2.1
    have i := iL hI
    refine ⟨hm.2.1, h2.1.trans b.2.1, fun k hk => ?_⟩
    have c := h2.2 k (by omega)
    exact ⟨c.1.trans (b.2.2 k hk).1, fun e => c.2.trans ((b.2.2 k hk).2 e)⟩
  · have b := h.2.2.2.2.2.2.2
    have i := iB hI
    refine ⟨hm.2.2, h3.1.trans b.2.1, fun k hk => ?_⟩
    have c := h3.2 k (by omega)
    exact ⟨c.1.trans (b.2.2 k hk).1, c.2.trans (b.2.2 k hk).2⟩
/-- the constants of a store's rows told by hand -/
def Mst (t : xD) (s : Nat) : Prop := t (8 + 89 * s) 2 = 5 ∧ t (11 + 89 * s) 2 = 10 ∧ t (14 + 89 * s) 2 = 8
theorem c_become {d : Nat} {s q : Nat} {g : xG} {t m : xD} (L : xLay g) (hs : s < 3) (hq : q < 3) (hsq : s ≠ q) (hI : Inv m) (hR : Rep t q m) (hm : Mst t s) : xCall (d + 3) 30 [(2, (((5 + 89 * s) : Nat) : Int)), (2, (((5 + 89 * q) : Nat) : Int))] g t (fun r g1 t1 => g1 = g ∧ r = none ∧ Rep t1 s m ∧ Fr s t t1) := by
  show xOk (d + 3) 30 0 [(2, (((5 + 89 * s) : Nat) : Int)), (2, (((5 + 89 * q) : Nat) : Int)), (3, 0)] [] g t _
  refine xk_push rfl (p := 1) rfl ?_
  refine xk_store rfl (p := 2) rfl (by decide) (Nat.le_of_ble_eq_true rfl) (ls' := [(2, (((5 + 89 * s) : Nat) : Int)), (2, (((5 + 89 * q) : Nat) : Int)), (0, 0)]) rfl ?_
  have lp1 : ∀ k : Nat, k ≤ 12 → ∀ (u1 : xD), (∀ n, n < k → Cn t u1 s q n) → (∀ a j, ¬ (18 + 89 * s ≤ a ∧ a < 18 + 89 * s + 5 * k) → u1 a j = t a j) → xOk (d + 3) 30 2 [(2, (((5 + 89 * s) : Nat) : Int)), (2, (((5 + 89 * q) : Nat) : Int)), (0, ((k : Nat) : Int))] [] g u1 (fun r g1 t1 => g1 = g ∧ r = none ∧ Rep t1 s m ∧ Fr s t t1) := by
    refine xk_up 12 (fun k hkk ih1  u1 h1_1 h1_2 => ?_)
    refine xk_load rfl (p := 3) rfl rfl ?_
    refine xk_push rfl (p := 5) rfl ?_
    refine xk_icmp rfl (p := 8) rfl (fun c5_2 => ?_) (fun c5_2 => ?_)
    · replace c5_2 : 12 ≤ ((k : Nat) : Int) := c5_2
      refine xk_push rfl (p := 30) rfl ?_
      refine xk_store rfl (p := 31) rfl (by decide) (Nat.le_of_ble_eq_true rfl) (ls' := [(2, (((5 + 89 * s) : Nat) : Int)), (2, (((5 + 89 * q) : Nat) : Int)), (0, 0)]) rfl ?_
      have lp3 : ∀ k : Nat, k ≤ 4 → ∀ (u2 : xD), (∀ n, n < 12 → Cn t u2 s q n) → (∀ n, n < k → Cd t u2 s q n) → (∀ a j, ¬ (18 + 89 * s ≤ a ∧ a < 78 + 89 * s + 4 * k) → u2 a j = t a j) → xOk (d + 3) 30 31 [(2, (((5 + 89 * s) : Nat) : Int)), (2, (((5 + 89 * q) : Nat) : Int)), (0, ((k : Nat) : Int))] [] g u2 (fun r g1 t1 => g1 = g ∧ r = none ∧ Rep t1 s m ∧ Fr s t t1) := by
        refine xk_up 4 (fun k hkk ih3  u2 h2_1 h2_2 h2_3 => ?_)
        refine xk_load rfl (p := 32) rfl rfl ?_
        refine xk_push rfl (p := 33) rfl ?_
        refine xk_icmp rfl (p := 36) rfl (fun c33_4 => ?_) (fun c33_4 => ?_)
        · replace c33_4 : 4 ≤ ((k : Nat) : Int) := c33_4
          refine xk_load rfl (p := 58) rfl rfl ?_
          refine xk_getf rfl (p := 61) rfl (xob (ly_st L hs) (by decide)) (v := (2, (((8 + 89 * s) : Nat) : Int))) (xsl2 rfl (ly_s2 L hs)) ?_
          refine xk_load rfl (p := 62) rfl rfl ?_
          refine xk_getf rfl (p := 65) rfl (xob (ly_st L hq) (by decide)) (v := (2, (((8 + 89 * q) : Nat) : Int))) (xsl2 rfl (ly_s2 L hq)) ?_
          refine xk_call rfl (p := 68) rfl (by decide) rfl (Nat.le_of_ble_eq_true rfl) (Nat.le_of_ble_eq_true rfl) (xrv ((ly_p1 L hs).1) (by decide)) (as := [(2, (((8 + 89 * s) : Nat) : Int)), (2, (((8 + 89 * q) : Nat) : Int))]) (r := []) rfl (p_become (b := 8) (ly_p1 L hs) (ly_p1 L hq) (by omega) hsq) ?_
          rintro _ g p1 ⟨rfl, rfl, cp1, fp1⟩
          refine xk_load rfl (p := 69) rfl rfl ?_
          refine xk_getf rfl (p := 72) rfl (xob (ly_st L hs) (by decide)) (v := (2, (((11 + 89 * s) : Nat) : Int))) (xsl2 rfl (ly_s3 L hs)) ?_
          refine xk_load rfl (p := 73) rfl rfl ?_
          refine xk_getf rfl (p := 76) rfl (xob (ly_st L hq) (by decide)) (v := (2, (((11 + 89 * q) : Nat) : Int))) (xsl2 rfl (ly_s3 L hq)) ?_
          refine xk_call rfl (p := 79) rfl (by decide) rfl (Nat.le_of_ble_eq_true rfl) (Nat.le_of_ble_eq_true rfl) (xrv ((ly_p2 L hs).1) (by decide)) (as := [(2, (((11 + 89 * s) : Nat) : Int)), (2, (((11 + 89 * q) : Nat) : Int))]) (r := []) rfl (p_become (b := 11) (ly_p2 L hs) (ly_p2 L hq) (by omega) hsq) ?_
          rintro _ g p2 ⟨rfl, rfl, cp2, fp2⟩
          refine xk_load rfl (p := 80) rfl rfl ?_
          refine xk_getf rfl (p := 83) rfl (xob (ly_st L hs) (by decide)) (v := (2, (((14 + 89 * s) : Nat) : Int))) (xsl2 rfl (ly_s4 L hs)) ?_
          refine xk_load rfl (p := 84) rfl rfl ?_
          refine xk_getf rfl (p := 87) rfl (xob (ly_st L hq) (by decide)) (v := (2, (((14 + 89 * q) : Nat) : Int))) (xsl2 rfl (ly_s4 L hq)) ?_
          refine xk_call rfl (p := 90) rfl (by decide) rfl (Nat.le_of_ble_eq_true rfl) (Nat.le_of_ble_eq_true rfl) (xrv ((ly_p3 L hs).1) (by decide)) (as := [(2, (((14 + 89 * s) : Nat) : Int)), (2, (((14 + 89 * q) : Nat) : Int))]) (r := []) rfl (p_become (b := 14) (ly_p3 L hs) (ly_p3 L hq) (by omega) hsq) ?_
          rintro _ g p3 ⟨rfl, rfl, cp3, fp3⟩
          have q0_ : ∀ j, p3 (5 + 89 * q) j = t (5 + 89 * q) j := fun j => (fp3 _ _ (by omega)).trans ((fp2 _ _ (by omega)).trans ((fp1 _ _ (by omega)).trans (h2_3 _ _ (by omega))))
          have hq8_ : p3 (5 + 89 * q) 8 = 0 ∨ p3 (5 + 89 * q) 8 = 1 := by rw [q0_, rRec hR]; have := sRec_c (m := m); omega
          have hq10_ : p3 (5 + 89 * q) 10 = 0 ∨ p3 (5 + 89 * q) 10 = 1 := by rw [q0_, rRun hR]; have := iP hI; omega
          refine xk_load rfl (p := 91) rfl rfl ?_
          refine xk_load rfl (p := 92) rfl rfl ?_
          refine xk_getf rfl (p := 95) rfl (xob (ly_st L hq) (by decide)) (v := (0, p3 (5 + 89 * q) 6)) (rfl) ?_
          refine xk_putf rfl (p := 98) rfl (xob (ly_st L hs) (by decide)) rfl (by decide) (by decide) (fun h => absurd h (by decide)) (by omega) ?_
          refine xk_load rfl (p := 99) rfl rfl ?_
          refine xk_load rfl (p := 100) rfl rfl ?_
          refine xk_getf rfl (p := 103) rfl (xob (ly_st L hq) (by decide)) (v := (0, p3 (5 + 89 * q) 7)) (xsl0 rfl (xupd_ne (by omega))) ?_
          refine xk_putf rfl (p := 106) rfl (xob (ly_st L hs) (by decide)) rfl (by decide) (by decide) (fun h => absurd h (by decide)) (by omega) ?_
          refine xk_load rfl (p := 107) rfl rfl ?_
          refine xk_load rfl (p := 108) rfl rfl ?_
          refine xk_getf rfl (p := 111) rfl (xob (ly_st L hq) (by decide)) (v := (0, p3 (5 + 89 * q) 8)) (xsl0 rfl ((xupd_ne (by omega)).trans (xupd_ne (by omega)))) ?_
          refine xk_putf rfl (p := 114) rfl (xob (ly_st L hs) (by decide)) rfl (by decide) (by decide) (fun _ => by first | omega | (split <;> simp)) (by omega) ?_
          refine xk_load rfl (p := 115) rfl rfl ?_
          refine xk_load rfl (p := 116) rfl rfl ?_
          refine xk_getf rfl (p := 119) rfl (xob (ly_st L hq) (by decide)) (v := (0, p3 (5 + 89 * q) 9)) (xsl0 rfl ((xupd_ne (by omega)).trans (((xupd_ne (by omega)).trans (xupd_ne (by omega)))))) ?_
          refine xk_putf rfl (p := 122) rfl (xob (ly_st L hs) (by decide)) rfl (by decide) (by decide) (fun h => absurd h (by decide)) (by omega) ?_
          refine xk_load rfl (p := 123) rfl rfl ?_
          refine xk_load rfl (p := 124) rfl rfl ?_
          refine xk_getf rfl (p := 127) rfl (xob (ly_st L hq) (by decide)) (v := (0, p3 (5 + 89 * q) 10)) (xsl0 rfl ((xupd_ne (by omega)).trans (((xupd_ne (by omega)).trans (((xupd_ne (by omega)).trans (xupd_ne (by omega)))))))) ?_
          refine xk_putf rfl (p := 130) rfl (xob (ly_st L hs) (by decide)) rfl (by decide) (by decide) (fun _ => by first | omega | (split <;> simp)) (by omega) ?_
          refine xk_load rfl (p := 131) rfl rfl ?_
          refine xk_load rfl (p := 132) rfl rfl ?_
          refine xk_getf rfl (p := 135) rfl (xob (ly_st L hq) (by decide)) (v := (1, p3 (5 + 89 * q) 11)) (xsl1 rfl ((xupd_ne (by omega)).trans (((xupd_ne (by omega)).trans (((xupd_ne (by omega)).trans (((xupd_ne (by omega)).trans (xupd_ne (by omega)))))))))) ?_
          refine xk_putf rfl (p := 138) rfl (xob (ly_st L hs) (by decide)) rfl (by decide) (by decide) (fun h => absurd h (by decide)) (by omega) ?_
          refine xk_ret rfl (rfl) ?_
          have e2 : ∀ a j, ¬ (18 + 89 * s ≤ a ∧ a < 94 + 89 * s) → u2 a j = t a j := fun a j hh => h2_3 a j (by omega)
          have f1 : ∀ a j, (a < 8 + 89 * s ∨ 17 + 89 * s ≤ a) → p3 a j = u2 a j := fun a j hh => (fp3 a j (by omega)).trans ((fp2 a j (by omega)).trans (fp1 a j (by omega)))
          have g0 : ∀ a j, a ≠ 5 + 89 * s → (xupd (xupd (xupd (xupd (xupd (xupd p3 (5 + 89 * s) 6 (p3 (5 + 89 * q) 6)) (5 + 89 * s) 7 (p3 (5 + 89 * q) 7)) (5 + 89 * s) 8 (p3 (5 + 89 * q) 8)) (5 + 89 * s) 9 (p3 (5 + 89 * q) 9)) (5 + 89 * s) 10 (p3 (5 + 89 * q) 10)) (5 + 89 * s) 11 (p3 (5 + 89 * q) 11)) a j = p3 a j := fun a j hh => (xupd_ne (by omega)).trans ((xupd_ne (by omega)).trans ((xupd_ne (by omega)).trans ((xupd_ne (by omega)).trans ((xupd_ne (by omega)).trans (xupd_ne (by omega))))))
          have f0 : ∀ a j, (a < 8 + 89 * s ∨ 17 + 89 * s ≤ a) → a ≠ 5 + 89 * s → (xupd (xupd (xupd (xupd (xupd (xupd p3 (5 + 89 * s) 6 (p3 (5 + 89 * q) 6)) (5 + 89 * s) 7 (p3 (5 + 89 * q) 7)) (5 + 89 * s) 8 (p3 (5 + 89 * q) 8)) (5 + 89 * s) 9 (p3 (5 + 89 * q) 9)) (5 + 89 * s) 10 (p3 (5 + 89 * q) 10)) (5 + 89 * s) 11 (p3 (5 + 89 * q) 11)) a j = u2 a j := fun a j h1 h2 => (g0 a j h2).trans (f1 a j h1)
          have q1 : ∀ j, p3 (5 + 89 * q) j = t (5 + 89 * q) j := fun j => (f1 _ j (by omega)).trans (e2 _ j (by omega))
          have s2 : p3 (8 + 89 * s) 2 = 5 ∧ p3 (11 + 89 * s) 2 = 10 ∧ p3 (14 + 89 * s) 2 = 8 := ⟨((fp3 _ _ (by omega)).trans ((fp2 _ _ (by omega)).trans ((fp1 _ _ (by omega)).trans (e2 _ _ (by omega))))).trans hm.1, ((fp3 _ _ (by omega)).trans ((fp2 _ _ (by omega)).trans ((fp1 _ _ (by omega)).trans (e2 _ _ (by omega))))).trans hm.2.1, ((fp3 _ _ (by omega)).trans ((fp2 _ _ (by omega)).trans ((fp1 _ _ (by omega)).trans (e2 _ _ (by omega))))).trans hm.2.2⟩
          refine ⟨rfl, rfl, hR.copy hI (fun k h6 h11 => ?_) (fun n hn => ?_) (fun d hd => ?_) ⟨?_, fun k hk => ⟨?_, ?_⟩⟩ ⟨?_, fun k hk => ⟨?_, ?_⟩⟩ ⟨?_, fun k hk => ⟨?_, ?_⟩⟩ ⟨(g0 _ _ (by omega)).trans s2.1, (g0 _ _ (by omega)).trans s2.2.1, (g0 _ _ (by omega)).trans s2.2.2⟩, fun a j hh => ?_⟩
          · rcases (by omega : k = 6 ∨ k = 7 ∨ k = 8 ∨ k = 9 ∨ k = 10 ∨ k = 11) with rfl | rfl | rfl | rfl | rfl | rfl <;> simp (disch := omega) only [xupd_ne, xupd_eq, q1]
          · have c := h2_1 n hn
            exact ⟨fun k h1 h2 => (f0 _ _ (by omega) (by omega)).trans (c.1 k h1 h2), (f0 _ _ (by omega) (by omega)).trans c.2.1, fun k hk => ⟨(f0 _ _ (by omega) (by omega)).trans (c.2.2 k hk).1, (f0 _ _ (by omega) (by omega)).trans (c.2.2 k hk).2.1, (f0 _ _ (by omega) (by omega)).trans (c.2.2 k hk).2.2⟩⟩
          · have c := h2_2 d (by omega)
            exact ⟨fun k h1 h2 => (f0 _ _ (by omega) (by omega)).trans (c.1 k h1 h2), fun k hk => ⟨(f0 _ _ (by omega) (by omega)).trans (c.2 k hk).1, (f0 _ _ (by omega) (by omega)).trans (c.2 k hk).2.1, (f0 _ _ (by omega) (by omega)).trans (c.2 k hk).2.2⟩⟩
          · exact (g0 _ _ (by omega)).trans ((fp3 _ _ (by omega)).trans ((fp2 _ _ (by omega)).trans (cp1.1.trans (e2 _ _ (by omega)))))
          · exact (g0 _ _ (by omega)).trans ((fp3 _ _ (by omega)).trans ((fp2 _ _ (by omega)).trans ((cp1.2 k hk).1.trans (e2 _ _ (by omega)))))
          · exact (g0 _ _ (by omega)).trans ((fp3 _ _ (by omega)).trans ((fp2 _ _ (by omega)).trans ((cp1.2 k hk).2.trans (e2 _ _ (by omega)))))
          · exact (g0 _ _ (by omega)).trans ((fp3 _ _ (by omega)).trans (cp2.1.trans ((fp1 _ _ (by omega)).trans (e2 _ _ (by omega)))))
          · exact (g0 _ _ (by omega)).trans ((fp3 _ _ (by omega)).trans ((cp2.2 k hk).1.trans ((fp1 _ _ (by omega)).trans (e2 _ _ (by omega)))))
          · exact (g0 _ _ (by omega)).trans ((fp3 _ _ (by omega)).trans ((cp2.2 k hk).2.trans ((fp1 _ _ (by omega)).trans (e2 _ _ (by omega)))))
          · exact (g0 _ _ (by omega)).trans (cp3.1.trans ((fp2 _ _ (by omega)).trans ((fp1 _ _ (by omega)).trans (e2 _ _ (by omega)))))
          · exact (g0 _ _ (by omega)).trans ((cp3.2 k hk).1.trans ((fp2 _ _ (by omega)).trans ((fp1 _ _ (by omega)).trans (e2 _ _ (by omega)))))
          · exact (g0 _ _ (by omega)).trans ((cp3.2 k hk).2.trans ((fp2 _ _ (by omega)).trans ((fp1 _ _ (by omega)).trans (e2 _ _ (by omega)))))
          · exact (g0 _ _ (by omega)).trans ((f1 _ _ (by omega)).trans (e2 _ _ (by omega)))
        · replace c33_4 : ¬ (4 ≤ ((k : Nat) : Int)) := c33_4
          refine xk_load rfl (p := 37) rfl rfl ?_
          refine xk_getf rfl (p := 40) rfl (xob (ly_st L hs) (by decide)) (v := (2, (((7 + 89 * s) : Nat) : Int))) (xsl2 rfl (ly_s1 L hs)) ?_
          refine xk_load rfl (p := 41) rfl rfl ?_
          refine xk_ald rfl (p := 42) rfl (v := (2, (((78 + 89 * s + 4 * k) : Nat) : Int))) (xal2 (ly_sd L hs) (by decide) (show k < 4 by omega) (ly_de L hs (show k < 4 by omega))) ?_
          refine xk_load rfl (p := 43) rfl rfl ?_
          refine xk_getf rfl (p := 46) rfl (xob (ly_st L hq) (by decide)) (v := (2, (((7 + 89 * q) : Nat) : Int))) (xsl2 rfl (ly_s1 L hq)) ?_
          refine xk_load rfl (p := 47) rfl rfl ?_
          refine xk_ald rfl (p := 48) rfl (v := (2, (((78 + 89 * q + 4 * k) : Nat) : Int))) (xal2 (ly_sd L hq) (by decide) (show k < 4 by omega) (ly_de L hq (show k < 4 by omega))) ?_
          refine xk_call rfl (p := 51) rfl (by decide) rfl (Nat.le_of_ble_eq_true rfl) (Nat.le_of_ble_eq_true rfl) (xrv ((ly_dl L hs (show k < 4 by omega)).1) (by decide)) (as := [(2, (((78 + 89 * s + 4 * k) : Nat) : Int)), (2, (((78 + 89 * q + 4 * k) : Nat) : Int))]) (r := []) rfl (d_become L hs hq hsq (show k < 4 by omega)) ?_
          rintro _ g v2 ⟨rfl, rfl, cd2, fr2⟩
          refine xk_inc1 rfl (p := 54) rfl (n := k) rfl (by omega) (ls' := [(2, (((5 + 89 * s) : Nat) : Int)), (2, (((5 + 89 * q) : Nat) : Int)), (0, ((k + 1 : Nat) : Int))]) rfl ?_
          refine xk_goto rfl ?_
          exact ih3 (by omega)  v2 (by exact fun n hn => by have c := h2_1 n hn; exact ⟨fun j h1 h2 => (fr2 _ _ (by omega)).trans (c.1 j h1 h2), (fr2 _ _ (by omega)).trans c.2.1, fun j hj => ⟨(fr2 _ _ (by omega)).trans (c.2.2 j hj).1, (fr2 _ _ (by omega)).trans (c.2.2 j hj).2.1, (fr2 _ _ (by omega)).trans (c.2.2 j hj).2.2⟩⟩) (by exact fun n hn => dite (n = k) (fun cn => by subst cn; exact ⟨fun j h1 h2 => (cd2.1 j h1 h2).trans (h2_3 _ _ (by omega)), fun j hj => ⟨(cd2.2 j hj).1.trans (h2_3 _ _ (by omega)), (cd2.2 j hj).2.1.trans (h2_3 _ _ (by omega)), (cd2.2 j hj).2.2.trans (h2_3 _ _ (by omega))⟩⟩) (fun cn => by have c := h2_2 n (by omega); exact ⟨fun j h1 h2 => (fr2 _ _ (by omega)).trans (c.1 j h1 h2), fun j hj => ⟨(fr2 _ _ (by omega)).trans (c.2 j hj).1, (fr2 _ _ (by omega)).trans (c.2 j hj).2.1, (fr2 _ _ (by omega)).trans (c.2 j hj).2.2⟩⟩)) (by exact fun a j hh => (fr2 a j (by omega)).trans (h2_3 a j (by omega)))
      exact lp3 0 (by omega)  u1 (by exact fun n hn => h1_1 n (by omega)) (by intro n hn; omega) (by exact fun a j hh => h1_2 a j (by omega))
    · replace c5_2 : ¬ (12 ≤ ((k : Nat) : Int)) := c5_2
      refine xk_load rfl (p := 9) rfl rfl ?_
      refine xk_getf rfl (p := 12) rfl (xob (ly_st L hs) (by decide)) (v := (2, (((6 + 89 * s) : Nat) : Int))) (xsl2 rfl (ly_s0 L hs)) ?_
      refine xk_load rfl (p := 13) rfl rfl ?_
      refine xk_ald rfl (p := 14) rfl (v := (2, (((18 + 89 * s + 5 * k) : Nat) : Int))) (xal2 (ly_sn L hs) (by decide) (show k < 12 by omega) (ly_ne L hs (show k < 12 by omega))) ?_
      refine xk_load rfl (p := 15) rfl rfl ?_
      refine xk_getf rfl (p := 18) rfl (xob (ly_st L hq) (by decide)) (v := (2, (((6 + 89 * q) : Nat) : Int))) (xsl2 rfl (ly_s0 L hq)) ?_
      refine xk_load rfl (p := 19) rfl rfl ?_
      refine xk_ald rfl (p := 20) rfl (v := (2, (((18 + 89 * q + 5 * k) : Nat) : Int))) (xal2 (ly_sn L hq) (by decide) (show k < 12 by omega) (ly_ne L hq (show k < 12 by omega))) ?_
      refine xk_call rfl (p := 23) rfl (by decide) rfl (Nat.le_of_ble_eq_true rfl) (Nat.le_of_ble_eq_true rfl) (xrv ((ly_nm L hs (show k < 12 by omega)).1) (by decide)) (as := [(2, (((18 + 89 * s + 5 * k) : Nat) : Int)), (2, (((18 + 89 * q + 5 * k) : Nat) : Int))]) (r := []) rfl (c_nbecome L hs hq hsq (show k < 12 by omega)) ?_
      rintro _ g v1 ⟨rfl, rfl, cn1, fr1⟩
      refine xk_inc1 rfl (p := 26) rfl (n := k) rfl (by omega) (ls' := [(2, (((5 + 89 * s) : Nat) : Int)), (2, (((5 + 89 * q) : Nat) : Int)), (0, ((k + 1 : Nat) : Int))]) rfl ?_
      refine xk_goto rfl ?_
      exact ih1 (by omega)  v1 (by exact fun n hn => dite (n = k) (fun cn => by subst cn; exact ⟨fun j h1 h2 => (cn1.1 j h1 h2).trans (h1_2 _ _ (by omega)), cn1.2.1.trans (h1_2 _ _ (by omega)), fun j hj => ⟨(cn1.2.2 j hj).1.trans (h1_2 _ _ (by omega)), (cn1.2.2 j hj).2.1.trans (h1_2 _ _ (by omega)), (cn1.2.2 j hj).2.2.trans (h1_2 _ _ (by omega))⟩⟩) (fun cn => by have c := h1_1 n (by omega); exact ⟨fun j h1 h2 => (fr1 _ _ (by omega)).trans (c.1 j h1 h2), (fr1 _ _ (by omega)).trans c.2.1, fun j hj => ⟨(fr1 _ _ (by omega)).trans (c.2.2 j hj).1, (fr1 _ _ (by omega)).trans (c.2.2 j hj).2.1, (fr1 _ _ (by omega)).trans (c.2.2 j hj).2.2⟩⟩)) (by exact fun a j hh => (fr1 a j (by omega)).trans (h1_2 a j (by omega)))
  exact lp1 0 (by omega)  t (by intro n hn; omega) (by exact fun a j hh => rfl)

theorem Rep.mst {t m : xD} {s : Nat} (h : Rep t s m) : Mst t s := ⟨rSm h, rLm h, rBm h⟩
/-- an image taken of the store: what the class's cells say of it -/
def IMG (t m : xD) : Prop := t 2 6 = m 292 28 ∧ (m 292 28 = 0 ∨ m 292 28 = 1) ∧ (m 292 28 = 1 → Rep t 1 (tUd m) ∧ Inv (tUd m))
theorem c_image {d : Nat} {g : xG} {t m : xD} (L : xLay g) (hI : Inv m) (hR : Rep t 0 m) (hm : Mst t 1) : xCall (d + 4) 99 [(2, ((2 : Nat) : Int))] g t (fun r g1 t1 => g1 = g ∧ r = some (0, ((nN m : Nat) : Int)) ∧ Rep t1 0 m ∧ Rep t1 1 m ∧ t1 2 6 = 1 ∧ ∀ a k, ¬ (94 ≤ a ∧ a < 183) → ¬ (a = 2 ∧ k = 6) → t1 a k = t a k) := by
  show xOk (d + 4) 99 0 [(2, ((2 : Nat) : Int))] [] g t _
  have iNn_ := iNn hI
  have hs : 0 < 3 := by decide
  have hs1 : 1 < 3 := by decide
  have hs2 : 2 < 3 := by decide
  refine xk_load rfl (p := 1) rfl rfl ?_
  refine xk_getf rfl (p := 4) rfl (xob (ly_x L) (by decide)) (v := (2, (((5 + 89 * 1) : Nat) : Int))) (xsl2 rfl (ly_x2 L)) ?_
  refine xk_load rfl (p := 5) rfl rfl ?_
  refine xk_getf rfl (p := 8) rfl (xob (ly_x L) (by decide)) (v := (2, (((5 + 89 * 0) : Nat) : Int))) (xsl2 rfl (ly_x1 L)) ?_
  refine xk_call rfl (p := 11) rfl (by decide) rfl (Nat.le_of_ble_eq_true rfl) (Nat.le_of_ble_eq_true rfl) (xrv (ly_st L hs1) (by decide)) (as := [(2, (((5 + 89 * 1) : Nat) : Int)), (2, (((5 + 89 * 0) : Nat) : Int))]) (r := []) rfl (c_become L hs1 hs (by decide) hI hR hm) ?_
  rintro _ g w1 ⟨rfl, rfl, hW1, hX1⟩
  have hW0 : Rep w1 0 m := hR.st hI (fun a k h1 h2 => hX1 a k (by omega))
  refine xk_load rfl (p := 12) rfl rfl ?_
  refine xk_push rfl (p := 13) rfl ?_
  refine xk_putf rfl (p := 16) rfl (xob (ly_x L) (by decide)) rfl (by decide) (by decide) (fun _ => by simp) (by omega) ?_
  refine xk_load rfl (p := 17) rfl rfl ?_
  refine xk_getf rfl (p := 20) rfl (xob (ly_x L) (by decide)) (v := (2, (((5 + 89 * 0) : Nat) : Int))) (xsl2 rfl (ly_x1 L)) ?_
  refine xk_getf rfl (p := 23) rfl (xob (ly_st L hs) (by decide)) (v := (0, ((nN m : Nat) : Int))) (xsl0 rfl ((xupd_ne (by omega)).trans (rNn hW0 hI))) ?_
  have iNn_ := iNn hI
  refine xk_ret rfl (rfl) ?_
  exact ⟨rfl, rfl, hW0.st hI (fun a k h1 h2 => xupd_ne (by omega)), hW1.st hI (fun a k h1 h2 => xupd_ne (by omega)), xupd_eq, fun a k h1 h2 => (xupd_ne h2).trans (hX1 a k (by omega))⟩

theorem c_undo {d : Nat} {g : xG} {t m : xD} (L : xLay g) (hI : Inv m) (hR : Rep t 0 m) (hG : IMG t m) : xCall (d + 4) 100 [(2, ((2 : Nat) : Int))] g t (zQ 0 g t (y_undo m)) := by
  show xOk (d + 4) 100 0 [(2, ((2 : Nat) : Int))] [] g t _
  have iNn_ := iNn hI
  have hs : 0 < 3 := by decide
  have hs1 : 1 < 3 := by decide
  have hs2 : 2 < 3 := by decide
  have hg0_ := hG.2.1
  refine xk_load rfl (p := 1) rfl rfl ?_
  refine xk_getf rfl (p := 4) rfl (xob (ly_x L) (by decide)) (v := (0, m 292 28)) (xsl0 rfl (hG.1)) ?_
  refine xk_if rfl (p := 7) rfl (fun c4_1 => ?_) (fun c4_1 => ?_)
  · replace c4_1 : ¬ (m 292 28 = 0) := c4_1
    refine xk_load rfl (p := 11) rfl rfl ?_
    refine xk_getf rfl (p := 14) rfl (xob (ly_x L) (by decide)) (v := (2, (((5 + 89 * 0) : Nat) : Int))) (xsl2 rfl (ly_x1 L)) ?_
    refine xk_load rfl (p := 15) rfl rfl ?_
    refine xk_getf rfl (p := 18) rfl (xob (ly_x L) (by decide)) (v := (2, (((5 + 89 * 1) : Nat) : Int))) (xsl2 rfl (ly_x2 L)) ?_
    have hg_ := hG.2.2 (by have := hG.2.1; omega)
    refine xk_call rfl (p := 21) rfl (by decide) rfl (Nat.le_of_ble_eq_true rfl) (Nat.le_of_ble_eq_true rfl) (xrv (ly_st L hs) (by decide)) (as := [(2, (((5 + 89 * 0) : Nat) : Int)), (2, (((5 + 89 * 1) : Nat) : Int))]) (r := []) rfl (c_become L hs hs1 (by decide) hg_.2 hg_.1 hR.mst) ?_
    rintro _ g w2 ⟨rfl, rfl, hW2, hX2⟩
    refine xk_load rfl (p := 22) rfl rfl ?_
    refine xk_getf rfl (p := 25) rfl (xob (ly_x L) (by decide)) (v := (2, (((5 + 89 * 0) : Nat) : Int))) (xsl2 rfl (ly_x1 L)) ?_
    refine xk_getf rfl (p := 28) rfl (xob (ly_st L hs) (by decide)) (v := (0, tUd m 292 0)) (xsl0 rfl (rN hW2)) ?_
    refine xk_ret rfl (rfl) ?_
    exact zRet (if_neg (by omega)) hW2 hX2
  · replace c4_1 : m 292 28 = 0 := Decidable.not_not.mp c4_1
    refine xk_push rfl (p := 9) rfl ?_
    refine xk_ret rfl (rfl) ?_
    exact zRet (if_pos (by omega)) hR Fr.rf

/-- the class's end, where what is asked was tried in store 2 -/
abbrev zQ2 (g : xG) (t : xD) (S : Option xV × xD) : Option xV → xG → xD → Prop := fun r g1 t1 => g1 = g ∧ r = S.1 ∧ Rep t1 0 S.2 ∧ Fr 2 t t1 ∧ Mst t1 2
theorem zRet2 {g : xG} {t u m : xD} {S : Option xV × xD} {r : Option xV} (e : S = (r, m)) (h1 : Rep u 0 m) (h2 : Fr 2 t u) (h3 : Mst u 2) : zQ2 g t S r g u := by
  rw [e]
  exact ⟨rfl, rfl, h1, h2, h3⟩
theorem Rep.off {t u m : xD} (h : Rep t 0 m) (hI : Inv m) (f : Fr 2 t u) : Rep u 0 m := h.st hI (fun a k h1 h2 => f a k (by omega))
theorem c_after {d : Nat} {g : xG} {t m : xD} {x y z : Int} (L : xLay g) (hI : Inv m) (hR : Rep t 0 m) (hm : Mst t 2) : xCall (d + 5) 87 [(2, ((2 : Nat) : Int)), (0, x), (0, y), (0, z)] g t (zQ2 g t (y_after m x y z)) := by
  show xOk (d + 5) 87 0 [(2, ((2 : Nat) : Int)), (0, x), (0, y), (0, z)] [] g t _
  have iNn_ := iNn hI
  have hs : 0 < 3 := by decide
  have hs1 : 1 < 3 := by decide
  have hs2 : 2 < 3 := by decide
  refine xk_load rfl (p := 1) rfl rfl ?_
  refine xk_if rfl (p := 4) rfl (fun c1_1 => ?_) (fun c1_1 => ?_)
  · replace c1_1 : x < 0 := c1_1
    refine xk_push rfl (p := 21) rfl ?_
    refine xk_ret rfl (rfl) ?_
    exact zRet2 (show y_after m x y z = (some (0, (-1)), m) from (by unfold y_after; (repeat' split) <;> first | rfl | (exfalso; omega) | (congr 1; omega))) hR Fr.rf hm
  · replace c1_1 : ¬ (x < 0) := c1_1
    refine xk_load rfl (p := 5) rfl rfl ?_
    refine xk_push rfl (p := 6) rfl ?_
    refine xk_icmp rfl (p := 9) rfl (fun c6_2 => ?_) (fun c6_2 => ?_)
    · replace c6_2 : 2 ≤ x := c6_2
      refine xk_push rfl (p := 21) rfl ?_
      refine xk_ret rfl (rfl) ?_
      exact zRet2 (show y_after m x y z = (some (0, (-1)), m) from (by unfold y_after; (repeat' split) <;> first | rfl | (exfalso; omega) | (congr 1; omega))) hR Fr.rf hm
    · replace c6_2 : ¬ (2 ≤ x) := c6_2
      refine xk_load rfl (p := 10) rfl rfl ?_
      refine xk_getf rfl (p := 13) rfl (xob (ly_x L) (by decide)) (v := (2, (((5 + 89 * 0) : Nat) : Int))) (xsl2 rfl (ly_x1 L)) ?_
      refine xk_load rfl (p := 14) rfl rfl ?_
      refine xk_callp rfl (p := 17) rfl (by decide) rfl (Nat.le_of_ble_eq_true rfl) (Nat.le_of_ble_eq_true rfl) (xrv (ly_st L hs) (by decide)) (as := [(2, (((5 + 89 * 0) : Nat) : Int)), (0, z)]) (r := []) rfl (v := (0, (if 0 ≤ z ∧ z < m 292 0 then (1 : Int) else 0))) (c_isName L hs hI hR) ?_
      have iNn_ := iNn hI
      refine xk_if rfl (p := 20) rfl (fun c17_3 => ?_) (fun c17_3 => ?_)
      · replace c17_3 : 0 ≤ z ∧ z < m 292 0 := xb_n0 c17_3
        refine xk_load rfl (p := 23) rfl rfl ?_
        refine xk_if rfl (p := 26) rfl (fun c23_4 => ?_) (fun c23_4 => ?_)
        · replace c23_4 : y < 0 := c23_4
          refine xk_push rfl (p := 34) rfl ?_
          refine xk_ret rfl (rfl) ?_
          exact zRet2 (show y_after m x y z = (some (0, (-2)), m) from (by unfold y_after; (repeat' split) <;> first | rfl | (exfalso; omega) | (congr 1; omega))) hR Fr.rf hm
        · replace c23_4 : ¬ (y < 0) := c23_4
          refine xk_load rfl (p := 27) rfl rfl ?_
          refine xk_push rfl (p := 29) rfl ?_
          refine xk_icmp rfl (p := 32) rfl (fun c29_5 => ?_) (fun c29_5 => ?_)
          · replace c29_5 : y ≤ 9 := c29_5
            refine xk_load rfl (p := 36) rfl rfl ?_
            refine xk_getf rfl (p := 39) rfl (xob (ly_x L) (by decide)) (v := (2, (((5 + 89 * 2) : Nat) : Int))) (xsl2 rfl (ly_x3 L)) ?_
            refine xk_load rfl (p := 40) rfl rfl ?_
            refine xk_getf rfl (p := 43) rfl (xob (ly_x L) (by decide)) (v := (2, (((5 + 89 * 0) : Nat) : Int))) (xsl2 rfl (ly_x1 L)) ?_
            refine xk_call rfl (p := 46) rfl (by decide) rfl (Nat.le_of_ble_eq_true rfl) (Nat.le_of_ble_eq_true rfl) (xrv (ly_st L hs2) (by decide)) (as := [(2, (((5 + 89 * 2) : Nat) : Int)), (2, (((5 + 89 * 0) : Nat) : Int))]) (r := []) rfl (c_become L hs2 hs (by decide) hI hR hm) ?_
            rintro _ g w3 ⟨rfl, rfl, hW3, hX3⟩
            have hI1 : Inv (tKe m 314 wAl) := hI.vi vw_ke.symm
            replace hW3 : Rep w3 2 (tKe m 314 wAl) := hW3.vi vw_ke.symm
            refine xk_load rfl (p := 47) rfl rfl ?_
            refine xk_getf rfl (p := 50) rfl (xob (ly_x L) (by decide)) (v := (2, (((5 + 89 * 2) : Nat) : Int))) (xsl2 rfl (ly_x3 L)) ?_
            refine xk_load rfl (p := 51) rfl rfl ?_
            refine xk_load rfl (p := 52) rfl rfl ?_
            refine xk_call rfl (p := 55) rfl (by decide) rfl (Nat.le_of_ble_eq_true rfl) (Nat.le_of_ble_eq_true rfl) (xrv (ly_st L hs2) (by decide)) (as := [(2, (((5 + 89 * 2) : Nat) : Int)), (0, x), (0, y)]) (r := []) rfl (c_takeSteps L hs2 hI1 hW3 (by omega) (by omega) (by omega)) ?_
            rintro _ g w4 ⟨rfl, rfl, hW4, hX4⟩
            refine xk_pop rfl (p := 56) rfl (show ¬ (0 : Nat) = 1 by decide) ?_
            refine xk_load rfl (p := 57) rfl rfl ?_
            refine xk_getf rfl (p := 60) rfl (xob (ly_x L) (by decide)) (v := (2, (((5 + 89 * 2) : Nat) : Int))) (xsl2 rfl (ly_x3 L)) ?_
            refine xk_call rfl (p := 63) rfl (by decide) rfl (Nat.le_of_ble_eq_true rfl) (Nat.le_of_ble_eq_true rfl) (xrv (ly_st L hs2) (by decide)) (as := [(2, (((5 + 89 * 2) : Nat) : Int))]) (r := []) rfl (c_breakDown L hs2 (hI1.steps _) hW4) ?_
            rintro _ g w5 ⟨rfl, rfl, hW5, hX5⟩
            refine xk_pop rfl (p := 64) rfl (show ¬ (0 : Nat) = 1 by decide) ?_
            refine xk_load rfl (p := 65) rfl rfl ?_
            refine xk_getf rfl (p := 68) rfl (xob (ly_x L) (by decide)) (v := (2, (((5 + 89 * 2) : Nat) : Int))) (xsl2 rfl (ly_x3 L)) ?_
            refine xk_load rfl (p := 69) rfl rfl ?_
            refine xk_stk (show _ = (0, ((z.toNat : Nat) : Int)) :: [(2, (((5 + 89 * 2) : Nat) : Int))] from congrArg (fun z => ((0, z) : xV) :: [(2, (((5 + 89 * 2) : Nat) : Int))]) (Int.toNat_of_nonneg (show 0 ≤ z by omega)).symm) ?_
            refine xk_callp rfl (p := 72) rfl (by decide) rfl (Nat.le_of_ble_eq_true rfl) (Nat.le_of_ble_eq_true rfl) (xrv (ly_st L hs2) (by decide)) (as := [(2, (((5 + 89 * 2) : Nat) : Int)), (0, ((z.toNat : Nat) : Int))]) (r := []) rfl (v := (0, sVal (tAf m x y.toNat) (z.toNat))) (xCall_eq (c_valueOf L hs2 (hI1.steps _).cr hW5 (by rw [((Un.steps y.toNat hI1).tr (Un.cr (hI1.steps y.toNat))).N]; show z.toNat < nN m; omega)) cVal_eq) ?_
            refine xk_ret rfl (rfl) ?_
            have un_ : Un (tKe m 314 wAl) (tAf m x y.toNat) := (Un.steps y.toNat hI1).tr (Un.cr (hI1.steps y.toNat))
            exact zRet2 ((if_pos (by omega)).trans ((if_pos (by omega)).trans (if_pos (by omega)))) ((hR.off hI ((hX3.tr hX4).tr hX5)).vi (vw_ag un_).symm) ((hX3.tr hX4).tr hX5) hW5.mst
          · replace c29_5 : ¬ (y ≤ 9) := c29_5
            refine xk_push rfl (p := 34) rfl ?_
            refine xk_ret rfl (rfl) ?_
            exact zRet2 (show y_after m x y z = (some (0, (-2)), m) from (by unfold y_after; (repeat' split) <;> first | rfl | (exfalso; omega) | (congr 1; omega))) hR Fr.rf hm
      · replace c17_3 : ¬ (0 ≤ z ∧ z < m 292 0) := xb_e1 c17_3
        refine xk_push rfl (p := 21) rfl ?_
        refine xk_ret rfl (rfl) ?_
        exact zRet2 (show y_after m x y z = (some (0, (-1)), m) from (by unfold y_after; (repeat' split) <;> first | rfl | (exfalso; omega) | (congr 1; omega))) hR Fr.rf hm

theorem Rep.loo {t m : xD} {s n : Nat} (h : Rep t s m) (hI : Inv m) (hn : n < nN m) : Rep (xupd t (18 + 89 * s + 5 * n) 5 0) s (xupd m 296 n 0) := by
  have h3 := h.2.2.1 n hn
  have h4 := h.2.2.2.1 n hn
  refine h.name (w := xupd m 296 n 0) hI hn (fun a k hh => xupd_ne (by omega)) (fun k h5 h6 => xupd_ne (by omega)) (fun a k hh => xupd_ne (by omega)) (fun q hq hq2 => ⟨xupd_ne (by omega), rfl, rfl, fun _ _ => rfl⟩) ⟨xupd_eq.trans xupd_eq.symm, (xupd_ne (by omega)).trans h3.2.2.2.2.2.1⟩ ⟨(xupd_ne (by omega)).trans h4.1, fun k hk => ?_⟩
  have q := h4.2 k hk
  exact ⟨(xupd_ne (by omega)).trans q.1, (xupd_ne (by omega)).trans q.2.1, (xupd_ne (by omega)).trans q.2.2⟩
theorem c_plan_out {d : Nat} {g : xG} {t m : xD} {s : Nat} (L : xLay g) (hs : s < 3) (hI : Inv m) (hR : Rep t s m) : xCall (d + 5) 59 [(2, (((5 + 89 * s) : Nat) : Int))] g t (fun r g1 t1 => g1 = g ∧ r = none ∧ Rep t1 s (tPn m (m 292 22).toNat) ∧ Fr s t t1) := by
  show xOk (d + 5) 59 0 [(2, (((5 + 89 * s) : Nat) : Int)), (3, 0), (3, 0)] [] g t _
  have iNn_ := iNn hI
  have iL0_ := iL hI
  refine xk_push rfl (p := 1) rfl ?_
  refine xk_store rfl (p := 2) rfl (by decide) (Nat.le_of_ble_eq_true rfl) (ls' := [(2, (((5 + 89 * s) : Nat) : Int)), (0, 0), (3, 0)]) rfl ?_
  have lp1 : ∀ k : Nat, k ≤ (m 292 22).toNat → ∀ (w2 : xV) (u1 : xD), (Rep u1 s (tPn m k)) → (Fr s t u1) → xOk (d + 5) 59 2 [(2, (((5 + 89 * s) : Nat) : Int)), (0, ((k : Nat) : Int)), w2] [] g u1 (fun r g1 t1 => g1 = g ∧ r = none ∧ Rep t1 s (tPn m (m 292 22).toNat) ∧ Fr s t t1) := by
    refine xk_up ((m 292 22).toNat) (fun k hkk ih1  w2 u1 h1_1 h1_2 => ?_)
    have pk_ := tPn_ok hI k hkk
    refine xk_load rfl (p := 3) rfl rfl ?_
    refine xk_load rfl (p := 4) rfl rfl ?_
    refine xk_getf rfl (p := 7) rfl (xob (ly_st L hs) (by decide)) (v := (2, (((11 + 89 * s) : Nat) : Int))) (xsl2 rfl (ly_s3 L hs)) ?_
    refine xk_getf rfl (p := 10) rfl (xob ((ly_p2 L hs).1) (by decide)) (v := (0, m 292 22)) (xsl0 rfl ((rLn h1_1).trans (pk_.2 292 22 (by unfold Sf; omega)))) ?_
    refine xk_icmp rfl (p := 13) rfl (fun c10_2 => ?_) (fun c10_2 => ?_)
    · replace c10_2 : m 292 22 ≤ ((k : Nat) : Int) := c10_2
      refine xk_ret rfl (rfl) ?_
      have ek : k = (m 292 22).toNat := by omega
      subst ek
      exact ⟨rfl, rfl, h1_1, h1_2⟩
    · replace c10_2 : ¬ (m 292 22 ≤ ((k : Nat) : Int)) := c10_2
      refine xk_load rfl (p := 14) rfl rfl ?_
      refine xk_getf rfl (p := 17) rfl (xob (ly_st L hs) (by decide)) (v := (2, (((11 + 89 * s) : Nat) : Int))) (xsl2 rfl (ly_s3 L hs)) ?_
      refine xk_getf rfl (p := 20) rfl (xob ((ly_p2 L hs).1) (by decide)) (v := (2, ((((11 + 89 * s) + 1) : Nat) : Int))) (xsl2 rfl ((ly_p2 L hs).2.2.2.1)) ?_
      refine xk_load rfl (p := 21) rfl rfl ?_
      refine xk_ald rfl (p := 22) rfl (v := (0, m 308 k)) ((xal0 ((ly_p2 L hs).2.1) (show k < 10 by omega)).trans (congrArg (fun z => some (0, z)) ((rL1 h1_1 (show ((k : Nat) : Int) < tPn m k 292 22 by rw [pk_.2 292 22 (by unfold Sf; omega)]; omega)).trans (pk_.2 308 k (by unfold Sf; omega))))) ?_
      have iL_ := iL0_.2.2 k (by omega)
      refine xk_store rfl (p := 23) rfl (by decide) (Nat.le_of_ble_eq_true rfl) (ls' := [(2, (((5 + 89 * s) : Nat) : Int)), (0, ((k : Nat) : Int)), (0, m 308 k)]) rfl ?_
      refine xk_load rfl (p := 24) rfl rfl ?_
      refine xk_push rfl (p := 25) rfl ?_
      refine xk_icmp rfl (p := 28) rfl (fun c25_3 => ?_) (fun c25_3 => ?_)
      · replace c25_3 : ¬ (m 308 k = 2) := c25_3
        refine xk_load rfl (p := 37) rfl rfl ?_
        refine xk_push rfl (p := 38) rfl ?_
        refine xk_icmp rfl (p := 41) rfl (fun c38_4 => ?_) (fun c38_4 => ?_)
        · replace c38_4 : ¬ (m 308 k = 3) := c38_4
          refine xk_load rfl (p := 63) rfl rfl ?_
          refine xk_load rfl (p := 64) rfl rfl ?_
          refine xk_push rfl (p := 65) rfl ?_
          refine xk_call rfl (p := 68) rfl (by decide) rfl (Nat.le_of_ble_eq_true rfl) (Nat.le_of_ble_eq_true rfl) (xrv (ly_st L hs) (by decide)) (as := [(2, (((5 + 89 * s) : Nat) : Int)), (0, m 308 k), (0, 1)]) (r := []) rfl (c_takeSteps L hs pk_.1 h1_1 (by omega) (by decide) (by decide)) ?_
          rintro _ g v3 ⟨rfl, rfl, hV3, hF3⟩
          refine xk_pop rfl (p := 69) rfl (show ¬ (0 : Nat) = 1 by decide) ?_
          refine xk_inc1 rfl (p := 72) rfl (n := k) rfl (by omega) (ls' := [(2, (((5 + 89 * s) : Nat) : Int)), (0, ((k + 1 : Nat) : Int)), (0, m 308 k)]) rfl ?_
          refine xk_goto rfl ?_
          exact ih1 (by omega) (0, m 308 k) v3 (by first | (show Rep v3 _ (tAct _ _ _); unfold tAct; rw [if_pos (by omega)]; exact hV3) | (show Rep v3 _ (tAct _ _ _); unfold tAct; rw [if_neg (by omega), if_pos (by omega)]; exact hV3)) (by exact h1_2.tr hF3)
        · replace c38_4 : m 308 k = 3 := Decidable.not_not.mp c38_4
          refine xk_load rfl (p := 42) rfl rfl ?_
          refine xk_getf rfl (p := 45) rfl (xob (ly_st L hs) (by decide)) (v := (2, (((6 + 89 * s) : Nat) : Int))) (xsl2 rfl (ly_s0 L hs)) ?_
          refine xk_load rfl (p := 46) rfl rfl ?_
          refine xk_getf rfl (p := 49) rfl (xob (ly_st L hs) (by decide)) (v := (2, (((11 + 89 * s) : Nat) : Int))) (xsl2 rfl (ly_s3 L hs)) ?_
          refine xk_getf rfl (p := 52) rfl (xob ((ly_p2 L hs).1) (by decide)) (v := (2, ((((11 + 89 * s) + 2) : Nat) : Int))) (xsl2 rfl ((ly_p2 L hs).2.2.2.2)) ?_
          refine xk_load rfl (p := 53) rfl rfl ?_
          refine xk_ald rfl (p := 54) rfl (v := (0, m 309 k)) ((xal0 ((ly_p2 L hs).2.2.1) (show k < 10 by omega)).trans (congrArg (fun z => some (0, z)) ((rL2 h1_1 (show ((k : Nat) : Int) < tPn m k 292 22 by rw [pk_.2 292 22 (by unfold Sf; omega)]; omega) (by rw [pk_.2 308 k (by unfold Sf; omega)]; omega)).trans (pk_.2 309 k (by unfold Sf; omega))))) ?_
          refine xk_aldi rfl (p := 55) rfl (show 0 ≤ m 309 k by omega) (v := (2, (((18 + 89 * s + 5 * ((m 309 k).toNat)) : Nat) : Int))) (xal2 (ly_sn L hs) (by decide) (show (m 309 k).toNat < 12 by omega) (ly_ne L hs (show (m 309 k).toNat < 12 by omega))) ?_
          refine xk_push rfl (p := 56) rfl ?_
          refine xk_putf rfl (p := 59) rfl (xob ((ly_nm L hs (show (m 309 k).toNat < 12 by omega)).1) (by decide)) rfl (by decide) (by decide) (fun h => absurd h (by decide)) (by omega) ?_
          refine xk_goto rfl ?_
          refine xk_inc1 rfl (p := 72) rfl (n := k) rfl (by omega) (ls' := [(2, (((5 + 89 * s) : Nat) : Int)), (0, ((k + 1 : Nat) : Int)), (0, m 308 k)]) rfl ?_
          refine xk_goto rfl ?_
          exact ih1 (by omega) (0, m 308 k) (xupd u1 (18 + 89 * s + 5 * ((m 309 k).toNat)) 5 0) (by show Rep _ _ (tAct _ _ _); unfold tAct; rw [if_neg (by omega), if_neg (by omega)]; exact h1_1.loo pk_.1 (by rw [pk_.2.N]; omega)) (by exact h1_2.up (by omega) (by omega))
      · replace c25_3 : m 308 k = 2 := Decidable.not_not.mp c25_3
        refine xk_load rfl (p := 29) rfl rfl ?_
        refine xk_call rfl (p := 32) rfl (by decide) rfl (Nat.le_of_ble_eq_true rfl) (Nat.le_of_ble_eq_true rfl) (xrv (ly_st L hs) (by decide)) (as := [(2, (((5 + 89 * s) : Nat) : Int))]) (r := []) rfl (c_breakDown L hs pk_.1 h1_1) ?_
        rintro _ g v3 ⟨rfl, rfl, hV3, hF3⟩
        refine xk_pop rfl (p := 33) rfl (show ¬ (0 : Nat) = 1 by decide) ?_
        refine xk_goto rfl ?_
        refine xk_inc1 rfl (p := 72) rfl (n := k) rfl (by omega) (ls' := [(2, (((5 + 89 * s) : Nat) : Int)), (0, ((k + 1 : Nat) : Int)), (0, m 308 k)]) rfl ?_
        refine xk_goto rfl ?_
        exact ih1 (by omega) (0, m 308 k) v3 (by first | (show Rep v3 _ (tAct _ _ _); unfold tAct; rw [if_pos (by omega)]; exact hV3) | (show Rep v3 _ (tAct _ _ _); unfold tAct; rw [if_neg (by omega), if_pos (by omega)]; exact hV3)) (by exact h1_2.tr hF3)
  exact lp1 0 (by omega) (3, 0) t (by exact hR) (by exact Fr.rf)

theorem c_ends {d : Nat} {g : xG} {t m : xD} {x : Int} (L : xLay g) (hI : Inv m) (hR : Rep t 0 m) (hm : Mst t 2) : xCall (d + 6) 95 [(2, ((2 : Nat) : Int)), (0, x)] g t (zQ2 g t (y_ends m x)) := by
  show xOk (d + 6) 95 0 [(2, ((2 : Nat) : Int)), (0, x)] [] g t _
  have iNn_ := iNn hI
  have hs : 0 < 3 := by decide
  have hs1 : 1 < 3 := by decide
  have hs2 : 2 < 3 := by decide
  refine xk_load rfl (p := 1) rfl rfl ?_
  refine xk_getf rfl (p := 4) rfl (xob (ly_x L) (by decide)) (v := (2, (((5 + 89 * 0) : Nat) : Int))) (xsl2 rfl (ly_x1 L)) ?_
  refine xk_load rfl (p := 5) rfl rfl ?_
  refine xk_callp rfl (p := 8) rfl (by decide) rfl (Nat.le_of_ble_eq_true rfl) (Nat.le_of_ble_eq_true rfl) (xrv (ly_st L hs) (by decide)) (as := [(2, (((5 + 89 * 0) : Nat) : Int)), (0, x)]) (r := []) rfl (v := (0, (if 0 ≤ x ∧ x < m 292 0 then (1 : Int) else 0))) (c_isName L hs hI hR) ?_
  have iNn_ := iNn hI
  refine xk_if rfl (p := 11) rfl (fun c8_1 => ?_) (fun c8_1 => ?_)
  · replace c8_1 : 0 ≤ x ∧ x < m 292 0 := xb_n0 c8_1
    refine xk_load rfl (p := 14) rfl rfl ?_
    refine xk_getf rfl (p := 17) rfl (xob (ly_x L) (by decide)) (v := (2, (((5 + 89 * 2) : Nat) : Int))) (xsl2 rfl (ly_x3 L)) ?_
    refine xk_load rfl (p := 18) rfl rfl ?_
    refine xk_getf rfl (p := 21) rfl (xob (ly_x L) (by decide)) (v := (2, (((5 + 89 * 0) : Nat) : Int))) (xsl2 rfl (ly_x1 L)) ?_
    refine xk_call rfl (p := 24) rfl (by decide) rfl (Nat.le_of_ble_eq_true rfl) (Nat.le_of_ble_eq_true rfl) (xrv (ly_st L hs2) (by decide)) (as := [(2, (((5 + 89 * 2) : Nat) : Int)), (2, (((5 + 89 * 0) : Nat) : Int))]) (r := []) rfl (c_become L hs2 hs (by decide) hI hR hm) ?_
    rintro _ g w3 ⟨rfl, rfl, hW3, hX3⟩
    have hI1 : Inv (tKe m 314 wAl) := hI.vi vw_ke.symm
    replace hW3 : Rep w3 2 (tKe m 314 wAl) := hW3.vi vw_ke.symm
    refine xk_load rfl (p := 25) rfl rfl ?_
    refine xk_getf rfl (p := 28) rfl (xob (ly_x L) (by decide)) (v := (2, (((5 + 89 * 2) : Nat) : Int))) (xsl2 rfl (ly_x3 L)) ?_
    refine xk_call rfl (p := 31) rfl (by decide) rfl (Nat.le_of_ble_eq_true rfl) (Nat.le_of_ble_eq_true rfl) (xrv (ly_st L hs2) (by decide)) (as := [(2, (((5 + 89 * 2) : Nat) : Int))]) (r := []) rfl (c_plan_out L hs2 hI1 hW3) ?_
    rintro _ g w4 ⟨rfl, rfl, hW4, hX4⟩
    have pe_ := tPn_ok hI1 (m 292 22).toNat (Nat.le_refl _)
    refine xk_load rfl (p := 32) rfl rfl ?_
    refine xk_getf rfl (p := 35) rfl (xob (ly_x L) (by decide)) (v := (2, (((5 + 89 * 2) : Nat) : Int))) (xsl2 rfl (ly_x3 L)) ?_
    refine xk_load rfl (p := 36) rfl rfl ?_
    refine xk_stk (show _ = (0, ((x.toNat : Nat) : Int)) :: [(2, (((5 + 89 * 2) : Nat) : Int))] from congrArg (fun z => ((0, z) : xV) :: [(2, (((5 + 89 * 2) : Nat) : Int))]) (Int.toNat_of_nonneg (show 0 ≤ x by omega)).symm) ?_
    refine xk_callp rfl (p := 39) rfl (by decide) rfl (Nat.le_of_ble_eq_true rfl) (Nat.le_of_ble_eq_true rfl) (xrv (ly_st L hs2) (by decide)) (as := [(2, (((5 + 89 * 2) : Nat) : Int)), (0, ((x.toNat : Nat) : Int))]) (r := []) rfl (v := (0, sVal (tEn m) (x.toNat))) (xCall_eq (c_valueOf (m := tEn m) L hs2 pe_.1 hW4 (by rw [show nN (tEn m) = nN m from pe_.2.N]; omega)) cVal_eq) ?_
    refine xk_ret rfl (rfl) ?_
    exact zRet2 (if_pos (by omega)) ((hR.off hI (hX3.tr hX4)).vi (vw_ag pe_.2).symm) (hX3.tr hX4) hW4.mst
  · replace c8_1 : ¬ (0 ≤ x ∧ x < m 292 0) := xb_e1 c8_1
    refine xk_push rfl (p := 12) rfl ?_
    refine xk_ret rfl (rfl) ?_
    exact zRet2 (if_neg (by omega)) hR Fr.rf hm
