/-! THE CLASS: SEE, BOOK, PLAN -/
theorem Rep.add1 {t m : xD} {s : Nat} {x y : Int} (h : Rep t s m) (hI : Inv m)  : Rep (xupd (xupd (xupd t (8 + 89 * s + 1) (m 292 19).toNat x) (8 + 89 * s + 2) (m 292 19).toNat y) (8 + 89 * s) 3 (m 292 19 + 1)) s (xupd (xupd (xupd m 306 (m 292 19).toNat x) 292 19 (m 292 19 + 1)) 307 (m 292 19).toNat y) := by
  have hN := (iNn hI).2
  have iS := iS hI
  refine ⟨R1.fr (m := xupd (xupd (xupd m 306 (m 292 19).toNat x) 292 19 (m 292 19 + 1)) 307 (m 292 19).toNat y) h.1 (fun k => (xupd_ne (by omega)).trans ((xupd_ne (by omega)).trans (xupd_ne (by omega)))), R2.fr (m := xupd (xupd (xupd m 306 (m 292 19).toNat x) 292 19 (m 292 19 + 1)) 307 (m 292 19).toNat y) h.2.1 (fun k => (xupd_ne (by omega)).trans ((xupd_ne (by omega)).trans (xupd_ne (by omega)))), R3.fr (m := xupd (xupd (xupd m 306 (m 292 19).toNat x) 292 19 (m 292 19 + 1)) 307 (m 292 19).toNat y) h.2.2.1 (fun n k hn => (xupd_ne (by omega)).trans ((xupd_ne (by omega)).trans (xupd_ne (by omega)))), R4.fr (m := xupd (xupd (xupd m 306 (m 292 19).toNat x) 292 19 (m 292 19 + 1)) 307 (m 292 19).toNat y) h.2.2.2.1 (fun n j k hn hj => (xupd_ne (by omega)).trans ((xupd_ne (by omega)).trans (xupd_ne (by omega)))), R5.fr (m := xupd (xupd (xupd m 306 (m 292 19).toNat x) 292 19 (m 292 19 + 1)) 307 (m 292 19).toNat y) h.2.2.2.2.1 (fun d j k hd hj => (xupd_ne (by omega)).trans ((xupd_ne (by omega)).trans (xupd_ne (by omega)))), ?_, R7.fr (m := xupd (xupd (xupd m 306 (m 292 19).toNat x) 292 19 (m 292 19 + 1)) 307 (m 292 19).toNat y) h.2.2.2.2.2.2.1 (fun j k hj => (xupd_ne (by omega)).trans ((xupd_ne (by omega)).trans (xupd_ne (by omega)))), R8.fr (m := xupd (xupd (xupd m 306 (m 292 19).toNat x) 292 19 (m 292 19 + 1)) 307 (m 292 19).toNat y) h.2.2.2.2.2.2.2 (fun j k hj => (xupd_ne (by omega)).trans ((xupd_ne (by omega)).trans (xupd_ne (by omega))))⟩
  have h6 := h.2.2.2.2.2.1
  refine ⟨?_, ?_, fun i hi => ?_⟩
  · exact ((xupd_ne (by omega)).trans ((xupd_ne (by omega)).trans (xupd_ne (by omega)))).trans h6.1
  · exact xupd_eq.trans (Eq.symm ((xupd_ne (by omega)).trans xupd_eq))
  · have hi : ((i : Nat) : Int) < m 292 19 + 1 := by rw [show (xupd (xupd (xupd m 306 (m 292 19).toNat x) 292 19 (m 292 19 + 1)) 307 (m 292 19).toNat y) 292 19 = m 292 19 + 1 from (xupd_ne (by omega)).trans xupd_eq] at hi; exact hi
    by_cases ci : i = (m 292 19).toNat
    · subst ci
      refine ⟨?_, ?_⟩
      · exact ((xupd_ne (by omega)).trans ((xupd_ne (by omega)).trans xupd_eq)).trans (Eq.symm ((xupd_ne (by omega)).trans ((xupd_ne (by omega)).trans xupd_eq)))
      · exact ((xupd_ne (by omega)).trans xupd_eq).trans xupd_eq.symm
    · have hq := h6.2.2 i (by omega)
      refine ⟨?_, ?_⟩
      · exact ((xupd_ne (by omega)).trans ((xupd_ne (by omega)).trans (xupd_ne (by omega)))).trans (hq.1.trans (Eq.symm ((xupd_ne (by omega)).trans ((xupd_ne (by omega)).trans (xupd_ne (by omega))))))
      · exact ((xupd_ne (by omega)).trans ((xupd_ne (by omega)).trans (xupd_ne (by omega)))).trans (hq.2.trans (Eq.symm ((xupd_ne (by omega)).trans ((xupd_ne (by omega)).trans (xupd_ne (by omega))))))
theorem Rep.clr1 {t m : xD} {s : Nat} (h : Rep t s m) (hI : Inv m) : Rep (xupd t (8 + 89 * s) 3 0) s (xupd m 292 19 0) := by
  have hN := (iNn hI).2
  refine ⟨R1.fr (m := xupd m 292 19 0) h.1 (fun k => xupd_ne (by omega)), R2.fr (m := xupd m 292 19 0) h.2.1 (fun k => xupd_ne (by omega)), R3.fr (m := xupd m 292 19 0) h.2.2.1 (fun n k hn => xupd_ne (by omega)), R4.fr (m := xupd m 292 19 0) h.2.2.2.1 (fun n j k hn hj => xupd_ne (by omega)), R5.fr (m := xupd m 292 19 0) h.2.2.2.2.1 (fun d j k hd hj => xupd_ne (by omega)), ?_, R7.fr (m := xupd m 292 19 0) h.2.2.2.2.2.2.1 (fun j k hj => xupd_ne (by omega)), R8.fr (m := xupd m 292 19 0) h.2.2.2.2.2.2.2 (fun j k hj => xupd_ne (by omega))⟩
  have h6 := h.2.2.2.2.2.1
  refine ⟨(xupd_ne (by omega)).trans h6.1, xupd_eq.trans xupd_eq.symm, fun i hi => ?_⟩
  rw [xupd_eq] at hi
  omega
theorem c_add1 {d : Nat} {g : xG} {t m : xD} {s : Nat} {x y : Int} (L : xLay g) (hs : s < 3) (hI : Inv m) (hR : Rep t s m) : xCall (d) 27 [(2, (((8 + 89 * s) : Nat) : Int)), (0, x), (0, y)] g t (zQ s g t (if m 292 19 = 5 then (some (0, -4), m) else (some (0, m 292 19 + 1), xupd (xupd (xupd m 306 (m 292 19).toNat x) 292 19 (m 292 19 + 1)) 307 (m 292 19).toNat y))) := by
  show xOk (d) 27 0 [(2, (((8 + 89 * s) : Nat) : Int)), (0, x), (0, y)] [] g t _
  refine xk_load rfl (p := 1) rfl rfl ?_
  refine xk_getf rfl (p := 4) rfl (xob ((ly_p1 L hs).1) (by decide)) (v := (0, m 292 19)) (xsl0 rfl (rSn hR)) ?_
  have iS_ := iS hI
  refine xk_load rfl (p := 5) rfl rfl ?_
  refine xk_getf rfl (p := 8) rfl (xob ((ly_p1 L hs).1) (by decide)) (v := (0, 5)) (xsl0 rfl (rSm hR)) ?_
  refine xk_icmp rfl (p := 11) rfl (fun c8_1 => ?_) (fun c8_1 => ?_)
  · replace c8_1 : m 292 19 < 5 := c8_1
    refine xk_load rfl (p := 15) rfl rfl ?_
    refine xk_getf rfl (p := 18) rfl (xob ((ly_p1 L hs).1) (by decide)) (v := (2, ((((8 + 89 * s) + 1) : Nat) : Int))) (xsl2 rfl ((ly_p1 L hs).2.2.2.1)) ?_
    refine xk_load rfl (p := 19) rfl rfl ?_
    refine xk_getf rfl (p := 22) rfl (xob ((ly_p1 L hs).1) (by decide)) (v := (0, m 292 19)) (xsl0 rfl (rSn hR)) ?_
    have iS_ := iS hI
    refine xk_load rfl (p := 23) rfl rfl ?_
    refine xk_asti rfl (p := 24) rfl (show 0 ≤ m 292 19 by omega) (by decide) rfl (xsk ((ly_p1 L hs).2.1)) (xsn ((ly_p1 L hs).2.1) (show (m 292 19).toNat < 10 by omega)) (by omega) ?_
    refine xk_load rfl (p := 25) rfl rfl ?_
    refine xk_getf rfl (p := 28) rfl (xob ((ly_p1 L hs).1) (by decide)) (v := (2, ((((8 + 89 * s) + 2) : Nat) : Int))) (xsl2 rfl ((ly_p1 L hs).2.2.2.2)) ?_
    refine xk_load rfl (p := 29) rfl rfl ?_
    refine xk_getf rfl (p := 32) rfl (xob ((ly_p1 L hs).1) (by decide)) (v := (0, m 292 19)) (xsl0 rfl ((xupd_ne (by omega)).trans (rSn hR))) ?_
    have iS_ := iS hI
    refine xk_load rfl (p := 33) rfl rfl ?_
    refine xk_asti rfl (p := 34) rfl (show 0 ≤ m 292 19 by omega) (by decide) rfl (xsk ((ly_p1 L hs).2.2.1)) (xsn ((ly_p1 L hs).2.2.1) (show (m 292 19).toNat < 10 by omega)) (by omega) ?_
    refine xk_load rfl (p := 35) rfl rfl ?_
    refine xk_dup rfl (p := 36) rfl (show ¬ (2 : Nat) = 1 by decide) ?_
    refine xk_getf rfl (p := 39) rfl (xob ((ly_p1 L hs).1) (by decide)) (v := (0, m 292 19)) (xsl0 rfl ((xupd_ne (by omega)).trans (((xupd_ne (by omega)).trans (rSn hR))))) ?_
    have iS_ := iS hI
    refine xk_push rfl (p := 40) rfl ?_
    refine xk_bin rfl (p := 41) rfl (z := (m 292 19 + 1)) (congrArg some (xadd_r (by omega) (by omega))) ?_
    refine xk_putf rfl (p := 44) rfl (xob ((ly_p1 L hs).1) (by decide)) rfl (by decide) (by decide) (fun h => absurd h (by decide)) (by omega) ?_
    refine xk_load rfl (p := 45) rfl rfl ?_
    refine xk_getf rfl (p := 48) rfl (xob ((ly_p1 L hs).1) (by decide)) (v := (0, (m 292 19 + 1))) (xsl0 rfl xupd_eq) ?_
    refine xk_ret rfl (rfl) ?_
    exact zRet (if_neg (by omega)) (hR.add1 hI) (((Fr.rf.up (by omega) (by omega)).up (by omega) (by omega)).up (by omega) (by omega))
  · replace c8_1 : ¬ (m 292 19 < 5) := c8_1
    refine xk_push rfl (p := 13) rfl ?_
    refine xk_ret rfl (rfl) ?_
    exact zRet (if_pos (by omega)) hR Fr.rf

theorem Rep.add2 {t m : xD} {s : Nat} {x y : Int} {z : Int} (h : Rep t s m) (hI : Inv m) (h2 : x = 3 → z = y) : Rep (xupd (xupd (xupd t (11 + 89 * s + 1) (m 292 22).toNat x) (11 + 89 * s + 2) (m 292 22).toNat y) (11 + 89 * s) 3 (m 292 22 + 1)) s (xupd (xupd (xupd m 308 (m 292 22).toNat x) 292 22 (m 292 22 + 1)) 309 (m 292 22).toNat z) := by
  have hN := (iNn hI).2
  have iL := iL hI
  refine ⟨R1.fr (m := xupd (xupd (xupd m 308 (m 292 22).toNat x) 292 22 (m 292 22 + 1)) 309 (m 292 22).toNat z) h.1 (fun k => (xupd_ne (by omega)).trans ((xupd_ne (by omega)).trans (xupd_ne (by omega)))), R2.fr (m := xupd (xupd (xupd m 308 (m 292 22).toNat x) 292 22 (m 292 22 + 1)) 309 (m 292 22).toNat z) h.2.1 (fun k => (xupd_ne (by omega)).trans ((xupd_ne (by omega)).trans (xupd_ne (by omega)))), R3.fr (m := xupd (xupd (xupd m 308 (m 292 22).toNat x) 292 22 (m 292 22 + 1)) 309 (m 292 22).toNat z) h.2.2.1 (fun n k hn => (xupd_ne (by omega)).trans ((xupd_ne (by omega)).trans (xupd_ne (by omega)))), R4.fr (m := xupd (xupd (xupd m 308 (m 292 22).toNat x) 292 22 (m 292 22 + 1)) 309 (m 292 22).toNat z) h.2.2.2.1 (fun n j k hn hj => (xupd_ne (by omega)).trans ((xupd_ne (by omega)).trans (xupd_ne (by omega)))), R5.fr (m := xupd (xupd (xupd m 308 (m 292 22).toNat x) 292 22 (m 292 22 + 1)) 309 (m 292 22).toNat z) h.2.2.2.2.1 (fun d j k hd hj => (xupd_ne (by omega)).trans ((xupd_ne (by omega)).trans (xupd_ne (by omega)))), R6.fr (m := xupd (xupd (xupd m 308 (m 292 22).toNat x) 292 22 (m 292 22 + 1)) 309 (m 292 22).toNat z) h.2.2.2.2.2.1 (fun j k hj => (xupd_ne (by omega)).trans ((xupd_ne (by omega)).trans (xupd_ne (by omega)))), ?_, R8.fr (m := xupd (xupd (xupd m 308 (m 292 22).toNat x) 292 22 (m 292 22 + 1)) 309 (m 292 22).toNat z) h.2.2.2.2.2.2.2 (fun j k hj => (xupd_ne (by omega)).trans ((xupd_ne (by omega)).trans (xupd_ne (by omega))))⟩
  have h6 := h.2.2.2.2.2.2.1
  refine ⟨?_, ?_, fun i hi => ?_⟩
  · exact ((xupd_ne (by omega)).trans ((xupd_ne (by omega)).trans (xupd_ne (by omega)))).trans h6.1
  · exact xupd_eq.trans (Eq.symm ((xupd_ne (by omega)).trans xupd_eq))
  · have hi : ((i : Nat) : Int) < m 292 22 + 1 := by rw [show (xupd (xupd (xupd m 308 (m 292 22).toNat x) 292 22 (m 292 22 + 1)) 309 (m 292 22).toNat z) 292 22 = m 292 22 + 1 from (xupd_ne (by omega)).trans xupd_eq] at hi; exact hi
    by_cases ci : i = (m 292 22).toNat
    · subst ci
      refine ⟨?_, ?_⟩
      · exact ((xupd_ne (by omega)).trans ((xupd_ne (by omega)).trans xupd_eq)).trans (Eq.symm ((xupd_ne (by omega)).trans ((xupd_ne (by omega)).trans xupd_eq)))
      · intro hx
        have hx : x = 3 := by rw [show (xupd (xupd (xupd m 308 (m 292 22).toNat x) 292 22 (m 292 22 + 1)) 309 (m 292 22).toNat z) 308 (m 292 22).toNat = x from (xupd_ne (by omega)).trans ((xupd_ne (by omega)).trans xupd_eq)] at hx; exact hx
        exact ((xupd_ne (by omega)).trans xupd_eq).trans ((h2 hx).symm.trans xupd_eq.symm)
    · have hq := h6.2.2 i (by omega)
      refine ⟨?_, ?_⟩
      · exact ((xupd_ne (by omega)).trans ((xupd_ne (by omega)).trans (xupd_ne (by omega)))).trans (hq.1.trans (Eq.symm ((xupd_ne (by omega)).trans ((xupd_ne (by omega)).trans (xupd_ne (by omega))))))
      · intro hx
        have hx : m 308 i = 3 := by rw [show (xupd (xupd (xupd m 308 (m 292 22).toNat x) 292 22 (m 292 22 + 1)) 309 (m 292 22).toNat z) 308 i = m 308 i from (xupd_ne (by omega)).trans ((xupd_ne (by omega)).trans (xupd_ne (by omega)))] at hx; exact hx
        exact ((xupd_ne (by omega)).trans ((xupd_ne (by omega)).trans (xupd_ne (by omega)))).trans ((hq.2 hx).trans (Eq.symm ((xupd_ne (by omega)).trans ((xupd_ne (by omega)).trans (xupd_ne (by omega))))))
theorem Rep.clr2 {t m : xD} {s : Nat} (h : Rep t s m) (hI : Inv m) : Rep (xupd t (11 + 89 * s) 3 0) s (xupd m 292 22 0) := by
  have hN := (iNn hI).2
  refine ⟨R1.fr (m := xupd m 292 22 0) h.1 (fun k => xupd_ne (by omega)), R2.fr (m := xupd m 292 22 0) h.2.1 (fun k => xupd_ne (by omega)), R3.fr (m := xupd m 292 22 0) h.2.2.1 (fun n k hn => xupd_ne (by omega)), R4.fr (m := xupd m 292 22 0) h.2.2.2.1 (fun n j k hn hj => xupd_ne (by omega)), R5.fr (m := xupd m 292 22 0) h.2.2.2.2.1 (fun d j k hd hj => xupd_ne (by omega)), R6.fr (m := xupd m 292 22 0) h.2.2.2.2.2.1 (fun j k hj => xupd_ne (by omega)), ?_, R8.fr (m := xupd m 292 22 0) h.2.2.2.2.2.2.2 (fun j k hj => xupd_ne (by omega))⟩
  have h6 := h.2.2.2.2.2.2.1
  refine ⟨(xupd_ne (by omega)).trans h6.1, xupd_eq.trans xupd_eq.symm, fun i hi => ?_⟩
  rw [xupd_eq] at hi
  omega
theorem c_add2 {d : Nat} {g : xG} {t m : xD} {s : Nat} {x y z : Int} (L : xLay g) (hs : s < 3) (hI : Inv m) (hR : Rep t s m) (h2 : x = 3 → z = y) : xCall (d) 27 [(2, (((11 + 89 * s) : Nat) : Int)), (0, x), (0, y)] g t (zQ s g t (if m 292 22 = 10 then (some (0, -4), m) else (some (0, m 292 22 + 1), xupd (xupd (xupd m 308 (m 292 22).toNat x) 292 22 (m 292 22 + 1)) 309 (m 292 22).toNat z))) := by
  show xOk (d) 27 0 [(2, (((11 + 89 * s) : Nat) : Int)), (0, x), (0, y)] [] g t _
  refine xk_load rfl (p := 1) rfl rfl ?_
  refine xk_getf rfl (p := 4) rfl (xob ((ly_p2 L hs).1) (by decide)) (v := (0, m 292 22)) (xsl0 rfl (rLn hR)) ?_
  have iL_ := iL hI
  refine xk_load rfl (p := 5) rfl rfl ?_
  refine xk_getf rfl (p := 8) rfl (xob ((ly_p2 L hs).1) (by decide)) (v := (0, 10)) (xsl0 rfl (rLm hR)) ?_
  refine xk_icmp rfl (p := 11) rfl (fun c8_1 => ?_) (fun c8_1 => ?_)
  · replace c8_1 : m 292 22 < 10 := c8_1
    refine xk_load rfl (p := 15) rfl rfl ?_
    refine xk_getf rfl (p := 18) rfl (xob ((ly_p2 L hs).1) (by decide)) (v := (2, ((((11 + 89 * s) + 1) : Nat) : Int))) (xsl2 rfl ((ly_p2 L hs).2.2.2.1)) ?_
    refine xk_load rfl (p := 19) rfl rfl ?_
    refine xk_getf rfl (p := 22) rfl (xob ((ly_p2 L hs).1) (by decide)) (v := (0, m 292 22)) (xsl0 rfl (rLn hR)) ?_
    have iL_ := iL hI
    refine xk_load rfl (p := 23) rfl rfl ?_
    refine xk_asti rfl (p := 24) rfl (show 0 ≤ m 292 22 by omega) (by decide) rfl (xsk ((ly_p2 L hs).2.1)) (xsn ((ly_p2 L hs).2.1) (show (m 292 22).toNat < 10 by omega)) (by omega) ?_
    refine xk_load rfl (p := 25) rfl rfl ?_
    refine xk_getf rfl (p := 28) rfl (xob ((ly_p2 L hs).1) (by decide)) (v := (2, ((((11 + 89 * s) + 2) : Nat) : Int))) (xsl2 rfl ((ly_p2 L hs).2.2.2.2)) ?_
    refine xk_load rfl (p := 29) rfl rfl ?_
    refine xk_getf rfl (p := 32) rfl (xob ((ly_p2 L hs).1) (by decide)) (v := (0, m 292 22)) (xsl0 rfl ((xupd_ne (by omega)).trans (rLn hR))) ?_
    have iL_ := iL hI
    refine xk_load rfl (p := 33) rfl rfl ?_
    refine xk_asti rfl (p := 34) rfl (show 0 ≤ m 292 22 by omega) (by decide) rfl (xsk ((ly_p2 L hs).2.2.1)) (xsn ((ly_p2 L hs).2.2.1) (show (m 292 22).toNat < 10 by omega)) (by omega) ?_
    refine xk_load rfl (p := 35) rfl rfl ?_
    refine xk_dup rfl (p := 36) rfl (show ¬ (2 : Nat) = 1 by decide) ?_
    refine xk_getf rfl (p := 39) rfl (xob ((ly_p2 L hs).1) (by decide)) (v := (0, m 292 22)) (xsl0 rfl ((xupd_ne (by omega)).trans (((xupd_ne (by omega)).trans (rLn hR))))) ?_
    have iL_ := iL hI
    refine xk_push rfl (p := 40) rfl ?_
    refine xk_bin rfl (p := 41) rfl (z := (m 292 22 + 1)) (congrArg some (xadd_r (by omega) (by omega))) ?_
    refine xk_putf rfl (p := 44) rfl (xob ((ly_p2 L hs).1) (by decide)) rfl (by decide) (by decide) (fun h => absurd h (by decide)) (by omega) ?_
    refine xk_load rfl (p := 45) rfl rfl ?_
    refine xk_getf rfl (p := 48) rfl (xob ((ly_p2 L hs).1) (by decide)) (v := (0, (m 292 22 + 1))) (xsl0 rfl xupd_eq) ?_
    refine xk_ret rfl (rfl) ?_
    exact zRet (if_neg (by omega)) (hR.add2 hI h2) (((Fr.rf.up (by omega) (by omega)).up (by omega) (by omega)).up (by omega) (by omega))
  · replace c8_1 : ¬ (m 292 22 < 10) := c8_1
    refine xk_push rfl (p := 13) rfl ?_
    refine xk_ret rfl (rfl) ?_
    exact zRet (if_pos (by omega)) hR Fr.rf

theorem Rep.add3 {t m : xD} {s : Nat} {x y : Int} (h : Rep t s m) (hI : Inv m)  : Rep (xupd (xupd (xupd t (14 + 89 * s + 1) (m 292 25).toNat x) (14 + 89 * s + 2) (m 292 25).toNat y) (14 + 89 * s) 3 (m 292 25 + 1)) s (xupd (xupd (xupd m 310 (m 292 25).toNat x) 292 25 (m 292 25 + 1)) 311 (m 292 25).toNat y) := by
  have hN := (iNn hI).2
  have iB := iB hI
  refine ⟨R1.fr (m := xupd (xupd (xupd m 310 (m 292 25).toNat x) 292 25 (m 292 25 + 1)) 311 (m 292 25).toNat y) h.1 (fun k => (xupd_ne (by omega)).trans ((xupd_ne (by omega)).trans (xupd_ne (by omega)))), R2.fr (m := xupd (xupd (xupd m 310 (m 292 25).toNat x) 292 25 (m 292 25 + 1)) 311 (m 292 25).toNat y) h.2.1 (fun k => (xupd_ne (by omega)).trans ((xupd_ne (by omega)).trans (xupd_ne (by omega)))), R3.fr (m := xupd (xupd (xupd m 310 (m 292 25).toNat x) 292 25 (m 292 25 + 1)) 311 (m 292 25).toNat y) h.2.2.1 (fun n k hn => (xupd_ne (by omega)).trans ((xupd_ne (by omega)).trans (xupd_ne (by omega)))), R4.fr (m := xupd (xupd (xupd m 310 (m 292 25).toNat x) 292 25 (m 292 25 + 1)) 311 (m 292 25).toNat y) h.2.2.2.1 (fun n j k hn hj => (xupd_ne (by omega)).trans ((xupd_ne (by omega)).trans (xupd_ne (by omega)))), R5.fr (m := xupd (xupd (xupd m 310 (m 292 25).toNat x) 292 25 (m 292 25 + 1)) 311 (m 292 25).toNat y) h.2.2.2.2.1 (fun d j k hd hj => (xupd_ne (by omega)).trans ((xupd_ne (by omega)).trans (xupd_ne (by omega)))), R6.fr (m := xupd (xupd (xupd m 310 (m 292 25).toNat x) 292 25 (m 292 25 + 1)) 311 (m 292 25).toNat y) h.2.2.2.2.2.1 (fun j k hj => (xupd_ne (by omega)).trans ((xupd_ne (by omega)).trans (xupd_ne (by omega)))), R7.fr (m := xupd (xupd (xupd m 310 (m 292 25).toNat x) 292 25 (m 292 25 + 1)) 311 (m 292 25).toNat y) h.2.2.2.2.2.2.1 (fun j k hj => (xupd_ne (by omega)).trans ((xupd_ne (by omega)).trans (xupd_ne (by omega)))), ?_⟩
  have h6 := h.2.2.2.2.2.2.2
  refine ⟨?_, ?_, fun i hi => ?_⟩
  · exact ((xupd_ne (by omega)).trans ((xupd_ne (by omega)).trans (xupd_ne (by omega)))).trans h6.1
  · exact xupd_eq.trans (Eq.symm ((xupd_ne (by omega)).trans xupd_eq))
  · have hi : ((i : Nat) : Int) < m 292 25 + 1 := by rw [show (xupd (xupd (xupd m 310 (m 292 25).toNat x) 292 25 (m 292 25 + 1)) 311 (m 292 25).toNat y) 292 25 = m 292 25 + 1 from (xupd_ne (by omega)).trans xupd_eq] at hi; exact hi
    by_cases ci : i = (m 292 25).toNat
    · subst ci
      refine ⟨?_, ?_⟩
      · exact ((xupd_ne (by omega)).trans ((xupd_ne (by omega)).trans xupd_eq)).trans (Eq.symm ((xupd_ne (by omega)).trans ((xupd_ne (by omega)).trans xupd_eq)))
      · exact ((xupd_ne (by omega)).trans xupd_eq).trans xupd_eq.symm
    · have hq := h6.2.2 i (by omega)
      refine ⟨?_, ?_⟩
      · exact ((xupd_ne (by omega)).trans ((xupd_ne (by omega)).trans (xupd_ne (by omega)))).trans (hq.1.trans (Eq.symm ((xupd_ne (by omega)).trans ((xupd_ne (by omega)).trans (xupd_ne (by omega))))))
      · exact ((xupd_ne (by omega)).trans ((xupd_ne (by omega)).trans (xupd_ne (by omega)))).trans (hq.2.trans (Eq.symm ((xupd_ne (by omega)).trans ((xupd_ne (by omega)).trans (xupd_ne (by omega))))))
theorem Rep.clr3 {t m : xD} {s : Nat} (h : Rep t s m) (hI : Inv m) : Rep (xupd t (14 + 89 * s) 3 0) s (xupd m 292 25 0) := by
  have hN := (iNn hI).2
  refine ⟨R1.fr (m := xupd m 292 25 0) h.1 (fun k => xupd_ne (by omega)), R2.fr (m := xupd m 292 25 0) h.2.1 (fun k => xupd_ne (by omega)), R3.fr (m := xupd m 292 25 0) h.2.2.1 (fun n k hn => xupd_ne (by omega)), R4.fr (m := xupd m 292 25 0) h.2.2.2.1 (fun n j k hn hj => xupd_ne (by omega)), R5.fr (m := xupd m 292 25 0) h.2.2.2.2.1 (fun d j k hd hj => xupd_ne (by omega)), R6.fr (m := xupd m 292 25 0) h.2.2.2.2.2.1 (fun j k hj => xupd_ne (by omega)), R7.fr (m := xupd m 292 25 0) h.2.2.2.2.2.2.1 (fun j k hj => xupd_ne (by omega)), ?_⟩
  have h6 := h.2.2.2.2.2.2.2
  refine ⟨(xupd_ne (by omega)).trans h6.1, xupd_eq.trans xupd_eq.symm, fun i hi => ?_⟩
  rw [xupd_eq] at hi
  omega
theorem c_add3 {d : Nat} {g : xG} {t m : xD} {s : Nat} {x y : Int} (L : xLay g) (hs : s < 3) (hI : Inv m) (hR : Rep t s m) : xCall (d) 27 [(2, (((14 + 89 * s) : Nat) : Int)), (0, x), (0, y)] g t (zQ s g t (if m 292 25 = 8 then (some (0, -4), m) else (some (0, m 292 25 + 1), xupd (xupd (xupd m 310 (m 292 25).toNat x) 292 25 (m 292 25 + 1)) 311 (m 292 25).toNat y))) := by
  show xOk (d) 27 0 [(2, (((14 + 89 * s) : Nat) : Int)), (0, x), (0, y)] [] g t _
  refine xk_load rfl (p := 1) rfl rfl ?_
  refine xk_getf rfl (p := 4) rfl (xob ((ly_p3 L hs).1) (by decide)) (v := (0, m 292 25)) (xsl0 rfl (rBn hR)) ?_
  have iB_ := iB hI
  refine xk_load rfl (p := 5) rfl rfl ?_
  refine xk_getf rfl (p := 8) rfl (xob ((ly_p3 L hs).1) (by decide)) (v := (0, 8)) (xsl0 rfl (rBm hR)) ?_
  refine xk_icmp rfl (p := 11) rfl (fun c8_1 => ?_) (fun c8_1 => ?_)
  · replace c8_1 : m 292 25 < 8 := c8_1
    refine xk_load rfl (p := 15) rfl rfl ?_
    refine xk_getf rfl (p := 18) rfl (xob ((ly_p3 L hs).1) (by decide)) (v := (2, ((((14 + 89 * s) + 1) : Nat) : Int))) (xsl2 rfl ((ly_p3 L hs).2.2.2.1)) ?_
    refine xk_load rfl (p := 19) rfl rfl ?_
    refine xk_getf rfl (p := 22) rfl (xob ((ly_p3 L hs).1) (by decide)) (v := (0, m 292 25)) (xsl0 rfl (rBn hR)) ?_
    have iB_ := iB hI
    refine xk_load rfl (p := 23) rfl rfl ?_
    refine xk_asti rfl (p := 24) rfl (show 0 ≤ m 292 25 by omega) (by decide) rfl (xsk ((ly_p3 L hs).2.1)) (xsn ((ly_p3 L hs).2.1) (show (m 292 25).toNat < 10 by omega)) (by omega) ?_
    refine xk_load rfl (p := 25) rfl rfl ?_
    refine xk_getf rfl (p := 28) rfl (xob ((ly_p3 L hs).1) (by decide)) (v := (2, ((((14 + 89 * s) + 2) : Nat) : Int))) (xsl2 rfl ((ly_p3 L hs).2.2.2.2)) ?_
    refine xk_load rfl (p := 29) rfl rfl ?_
    refine xk_getf rfl (p := 32) rfl (xob ((ly_p3 L hs).1) (by decide)) (v := (0, m 292 25)) (xsl0 rfl ((xupd_ne (by omega)).trans (rBn hR))) ?_
    have iB_ := iB hI
    refine xk_load rfl (p := 33) rfl rfl ?_
    refine xk_asti rfl (p := 34) rfl (show 0 ≤ m 292 25 by omega) (by decide) rfl (xsk ((ly_p3 L hs).2.2.1)) (xsn ((ly_p3 L hs).2.2.1) (show (m 292 25).toNat < 10 by omega)) (by omega) ?_
    refine xk_load rfl (p := 35) rfl rfl ?_
    refine xk_dup rfl (p := 36) rfl (show ¬ (2 : Nat) = 1 by decide) ?_
    refine xk_getf rfl (p := 39) rfl (xob ((ly_p3 L hs).1) (by decide)) (v := (0, m 292 25)) (xsl0 rfl ((xupd_ne (by omega)).trans (((xupd_ne (by omega)).trans (rBn hR))))) ?_
    have iB_ := iB hI
    refine xk_push rfl (p := 40) rfl ?_
    refine xk_bin rfl (p := 41) rfl (z := (m 292 25 + 1)) (congrArg some (xadd_r (by omega) (by omega))) ?_
    refine xk_putf rfl (p := 44) rfl (xob ((ly_p3 L hs).1) (by decide)) rfl (by decide) (by decide) (fun h => absurd h (by decide)) (by omega) ?_
    refine xk_load rfl (p := 45) rfl rfl ?_
    refine xk_getf rfl (p := 48) rfl (xob ((ly_p3 L hs).1) (by decide)) (v := (0, (m 292 25 + 1))) (xsl0 rfl xupd_eq) ?_
    refine xk_ret rfl (rfl) ?_
    exact zRet (if_neg (by omega)) (hR.add3 hI) (((Fr.rf.up (by omega) (by omega)).up (by omega) (by omega)).up (by omega) (by omega))
  · replace c8_1 : ¬ (m 292 25 < 8) := c8_1
    refine xk_push rfl (p := 13) rfl ?_
    refine xk_ret rfl (rfl) ?_
    exact zRet (if_pos (by omega)) hR Fr.rf

theorem c_tell1 {d : Nat} {g : xG} {t m : xD} {x y : Int} (L : xLay g) (hI : Inv m) (hR : Rep t 0 m) : xCall (d + 1) 107 [(2, ((2 : Nat) : Int)), (2, (((8 + 89 * 0) : Nat) : Int)), (0, x), (0, y)] g t (zQ 0 g t (y_see m x y)) := by
  show xOk (d + 1) 107 0 [(2, ((2 : Nat) : Int)), (2, (((8 + 89 * 0) : Nat) : Int)), (0, x), (0, y)] [] g t _
  have iNn_ := iNn hI
  have hs : 0 < 3 := by decide
  have hs1 : 1 < 3 := by decide
  have hs2 : 2 < 3 := by decide
  refine xk_load rfl (p := 1) rfl rfl ?_
  refine xk_push rfl (p := 2) rfl ?_
  refine xk_icmp rfl (p := 5) rfl (fun c2_1 => ?_) (fun c2_1 => ?_)
  · replace c2_1 : ¬ (x = (-1)) := c2_1
    refine xk_load rfl (p := 13) rfl rfl ?_
    refine xk_getf rfl (p := 16) rfl (xob (ly_x L) (by decide)) (v := (2, (((5 + 89 * 0) : Nat) : Int))) (xsl2 rfl (ly_x1 L)) ?_
    refine xk_load rfl (p := 17) rfl rfl ?_
    refine xk_callp rfl (p := 20) rfl (by decide) rfl (Nat.le_of_ble_eq_true rfl) (Nat.le_of_ble_eq_true rfl) (xrv (ly_st L hs) (by decide)) (as := [(2, (((5 + 89 * 0) : Nat) : Int)), (0, x)]) (r := []) rfl (v := (0, (if 0 ≤ x ∧ x < m 292 0 then (1 : Int) else 0))) (c_isName L hs hI hR) ?_
    have iNn_ := iNn hI
    refine xk_if rfl (p := 23) rfl (fun c20_2 => ?_) (fun c20_2 => ?_)
    · replace c20_2 : 0 ≤ x ∧ x < m 292 0 := xb_n0 c20_2
      refine xk_load rfl (p := 26) rfl rfl ?_
      refine xk_callp rfl (p := 29) rfl (by decide) rfl (Nat.le_of_ble_eq_true rfl) (Nat.le_of_ble_eq_true rfl) (rfl) (as := [(0, y)]) (r := []) rfl (v := (0, (if 0 ≤ y ∧ y ≤ 999 then (1 : Int) else 0))) (c_isRevision) ?_
      refine xk_if rfl (p := 32) rfl (fun c29_3 => ?_) (fun c29_3 => ?_)
      · replace c29_3 : 0 ≤ y ∧ y ≤ 999 := xb_n0 c29_3
        refine xk_load rfl (p := 36) rfl rfl ?_
        refine xk_load rfl (p := 37) rfl rfl ?_
        refine xk_load rfl (p := 38) rfl rfl ?_
        refine xk_call rfl (p := 41) rfl (by decide) rfl (Nat.le_of_ble_eq_true rfl) (Nat.le_of_ble_eq_true rfl) (xrv (ly_p1 L hs).1 (by decide)) (as := [(2, ((8 + 89 * 0 : Nat) : Int)), (0, x), (0, y)]) (r := []) rfl (c_add1 L hs hI hR) ?_
        rintro r4 g v4 ⟨rfl, hr4, hV4, hF4⟩
        have ey : y_see m x y = (if m 292 19 = 5 then (some (0, -4), m) else (some (0, m 292 19 + 1), xupd (xupd (xupd m 306 (m 292 19).toNat x) 292 19 (m 292 19 + 1)) 307 (m 292 19).toNat y)) := by
          unfold y_see
          rw [if_neg (by omega), if_pos (by omega), if_pos (by omega)]
        by_cases cf : m 292 19 = 5
        · rw [if_pos cf] at hr4 hV4 ey
          subst hr4
          exact xk_ret rfl rfl (zRet ey hV4 hF4)
        · rw [if_neg cf] at hr4 hV4 ey
          subst hr4
          exact xk_ret rfl rfl (zRet ey hV4 hF4)
      · replace c29_3 : ¬ (0 ≤ y ∧ y ≤ 999) := xb_e1 c29_3
        refine xk_push rfl (p := 34) rfl ?_
        refine xk_ret rfl (rfl) ?_
        exact zRet (show y_see m x y = (some (0, (-2)), m) from (by unfold y_see; (repeat' split) <;> first | rfl | (exfalso; omega) | (congr 1; omega))) hR Fr.rf
    · replace c20_2 : ¬ (0 ≤ x ∧ x < m 292 0) := xb_e1 c20_2
      refine xk_push rfl (p := 24) rfl ?_
      refine xk_ret rfl (rfl) ?_
      exact zRet (show y_see m x y = (some (0, (-1)), m) from (by unfold y_see; (repeat' split) <;> first | rfl | (exfalso; omega) | (congr 1; omega))) hR Fr.rf
  · replace c2_1 : x = (-1) := Decidable.not_not.mp c2_1
    refine xk_load rfl (p := 6) rfl rfl ?_
    refine xk_push rfl (p := 7) rfl ?_
    refine xk_putf rfl (p := 10) rfl (xob ((ly_p1 L hs).1) (by decide)) rfl (by decide) (by decide) (fun h => absurd h (by decide)) (by omega) ?_
    refine xk_push rfl (p := 11) rfl ?_
    refine xk_ret rfl (rfl) ?_
    exact zRet (show y_see m x y = (some (0, 0), xupd m 292 19 0) from (by unfold y_see; (repeat' split) <;> first | rfl | (exfalso; omega) | (congr 1; omega))) (hR.clr1 hI) (Fr.rf.up (by omega) (by omega))

theorem y_see_i {m : xD} {x y : Int} : ∃ z : Int, (y_see m x y).1 = some (0, z) := by
  unfold y_see
  (repeat' split) <;> exact ⟨_, rfl⟩
theorem c_see {d : Nat} {g : xG} {t m : xD} {x y : Int} (L : xLay g) (hI : Inv m) (hR : Rep t 0 m) : xCall (d + 2) 90 [(2, ((2 : Nat) : Int)), (0, x), (0, y)] g t (zQ 0 g t (y_see m x y)) := by
  show xOk (d + 2) 90 0 [(2, ((2 : Nat) : Int)), (0, x), (0, y)] [] g t _
  have iNn_ := iNn hI
  have hs : 0 < 3 := by decide
  have hs1 : 1 < 3 := by decide
  have hs2 : 2 < 3 := by decide
  refine xk_load rfl (p := 1) rfl rfl ?_
  refine xk_load rfl (p := 2) rfl rfl ?_
  refine xk_getf rfl (p := 5) rfl (xob (ly_x L) (by decide)) (v := (2, (((5 + 89 * 0) : Nat) : Int))) (xsl2 rfl (ly_x1 L)) ?_
  refine xk_getf rfl (p := 8) rfl (xob (ly_st L hs) (by decide)) (v := (2, (((8 + 89 * 0) : Nat) : Int))) (xsl2 rfl (ly_s2 L hs)) ?_
  refine xk_load rfl (p := 9) rfl rfl ?_
  refine xk_load rfl (p := 10) rfl rfl ?_
  refine xk_call rfl (p := 13) rfl (by decide) rfl (Nat.le_of_ble_eq_true rfl) (Nat.le_of_ble_eq_true rfl) (xrv (ly_x L) (by decide)) (as := [(2, ((2 : Nat) : Int)), (2, ((8 + 89 * 0 : Nat) : Int)), (0, x), (0, y)]) (r := []) rfl (c_tell1 L hI hR) ?_
  rintro r5 g v5 ⟨rfl, hr5, hV5, hF5⟩
  obtain ⟨z5, hz5⟩ := y_see_i (m := m) (x := x) (y := y)
  rw [hz5] at hr5
  subst hr5
  exact xk_ret rfl rfl ⟨rfl, hz5.symm, hV5, hF5⟩

theorem c_tell3 {d : Nat} {g : xG} {t m : xD} {x y : Int} (L : xLay g) (hI : Inv m) (hR : Rep t 0 m) : xCall (d + 1) 107 [(2, ((2 : Nat) : Int)), (2, (((14 + 89 * 0) : Nat) : Int)), (0, x), (0, y)] g t (zQ 0 g t (y_book m x y)) := by
  show xOk (d + 1) 107 0 [(2, ((2 : Nat) : Int)), (2, (((14 + 89 * 0) : Nat) : Int)), (0, x), (0, y)] [] g t _
  have iNn_ := iNn hI
  have hs : 0 < 3 := by decide
  have hs1 : 1 < 3 := by decide
  have hs2 : 2 < 3 := by decide
  refine xk_load rfl (p := 1) rfl rfl ?_
  refine xk_push rfl (p := 2) rfl ?_
  refine xk_icmp rfl (p := 5) rfl (fun c2_1 => ?_) (fun c2_1 => ?_)
  · replace c2_1 : ¬ (x = (-1)) := c2_1
    refine xk_load rfl (p := 13) rfl rfl ?_
    refine xk_getf rfl (p := 16) rfl (xob (ly_x L) (by decide)) (v := (2, (((5 + 89 * 0) : Nat) : Int))) (xsl2 rfl (ly_x1 L)) ?_
    refine xk_load rfl (p := 17) rfl rfl ?_
    refine xk_callp rfl (p := 20) rfl (by decide) rfl (Nat.le_of_ble_eq_true rfl) (Nat.le_of_ble_eq_true rfl) (xrv (ly_st L hs) (by decide)) (as := [(2, (((5 + 89 * 0) : Nat) : Int)), (0, x)]) (r := []) rfl (v := (0, (if 0 ≤ x ∧ x < m 292 0 then (1 : Int) else 0))) (c_isName L hs hI hR) ?_
    have iNn_ := iNn hI
    refine xk_if rfl (p := 23) rfl (fun c20_2 => ?_) (fun c20_2 => ?_)
    · replace c20_2 : 0 ≤ x ∧ x < m 292 0 := xb_n0 c20_2
      refine xk_load rfl (p := 26) rfl rfl ?_
      refine xk_callp rfl (p := 29) rfl (by decide) rfl (Nat.le_of_ble_eq_true rfl) (Nat.le_of_ble_eq_true rfl) (rfl) (as := [(0, y)]) (r := []) rfl (v := (0, (if 0 ≤ y ∧ y ≤ 999 then (1 : Int) else 0))) (c_isRevision) ?_
      refine xk_if rfl (p := 32) rfl (fun c29_3 => ?_) (fun c29_3 => ?_)
      · replace c29_3 : 0 ≤ y ∧ y ≤ 999 := xb_n0 c29_3
        refine xk_load rfl (p := 36) rfl rfl ?_
        refine xk_load rfl (p := 37) rfl rfl ?_
        refine xk_load rfl (p := 38) rfl rfl ?_
        refine xk_call rfl (p := 41) rfl (by decide) rfl (Nat.le_of_ble_eq_true rfl) (Nat.le_of_ble_eq_true rfl) (xrv (ly_p3 L hs).1 (by decide)) (as := [(2, ((14 + 89 * 0 : Nat) : Int)), (0, x), (0, y)]) (r := []) rfl (c_add3 L hs hI hR) ?_
        rintro r4 g v4 ⟨rfl, hr4, hV4, hF4⟩
        have ey : y_book m x y = (if m 292 25 = 8 then (some (0, -4), m) else (some (0, m 292 25 + 1), xupd (xupd (xupd m 310 (m 292 25).toNat x) 292 25 (m 292 25 + 1)) 311 (m 292 25).toNat y)) := by
          unfold y_book
          rw [if_neg (by omega), if_pos (by omega), if_pos (by omega)]
        by_cases cf : m 292 25 = 8
        · rw [if_pos cf] at hr4 hV4 ey
          subst hr4
          exact xk_ret rfl rfl (zRet ey hV4 hF4)
        · rw [if_neg cf] at hr4 hV4 ey
          subst hr4
          exact xk_ret rfl rfl (zRet ey hV4 hF4)
      · replace c29_3 : ¬ (0 ≤ y ∧ y ≤ 999) := xb_e1 c29_3
        refine xk_push rfl (p := 34) rfl ?_
        refine xk_ret rfl (rfl) ?_
        exact zRet (show y_book m x y = (some (0, (-2)), m) from (by unfold y_book; (repeat' split) <;> first | rfl | (exfalso; omega) | (congr 1; omega))) hR Fr.rf
    · replace c20_2 : ¬ (0 ≤ x ∧ x < m 292 0) := xb_e1 c20_2
      refine xk_push rfl (p := 24) rfl ?_
      refine xk_ret rfl (rfl) ?_
      exact zRet (show y_book m x y = (some (0, (-1)), m) from (by unfold y_book; (repeat' split) <;> first | rfl | (exfalso; omega) | (congr 1; omega))) hR Fr.rf
  · replace c2_1 : x = (-1) := Decidable.not_not.mp c2_1
    refine xk_load rfl (p := 6) rfl rfl ?_
    refine xk_push rfl (p := 7) rfl ?_
    refine xk_putf rfl (p := 10) rfl (xob ((ly_p3 L hs).1) (by decide)) rfl (by decide) (by decide) (fun h => absurd h (by decide)) (by omega) ?_
    refine xk_push rfl (p := 11) rfl ?_
    refine xk_ret rfl (rfl) ?_
    exact zRet (show y_book m x y = (some (0, 0), xupd m 292 25 0) from (by unfold y_book; (repeat' split) <;> first | rfl | (exfalso; omega) | (congr 1; omega))) (hR.clr3 hI) (Fr.rf.up (by omega) (by omega))

theorem y_book_i {m : xD} {x y : Int} : ∃ z : Int, (y_book m x y).1 = some (0, z) := by
  unfold y_book
  (repeat' split) <;> exact ⟨_, rfl⟩
theorem c_book {d : Nat} {g : xG} {t m : xD} {x y : Int} (L : xLay g) (hI : Inv m) (hR : Rep t 0 m) : xCall (d + 2) 96 [(2, ((2 : Nat) : Int)), (0, x), (0, y)] g t (zQ 0 g t (y_book m x y)) := by
  show xOk (d + 2) 96 0 [(2, ((2 : Nat) : Int)), (0, x), (0, y)] [] g t _
  have iNn_ := iNn hI
  have hs : 0 < 3 := by decide
  have hs1 : 1 < 3 := by decide
  have hs2 : 2 < 3 := by decide
  refine xk_load rfl (p := 1) rfl rfl ?_
  refine xk_load rfl (p := 2) rfl rfl ?_
  refine xk_getf rfl (p := 5) rfl (xob (ly_x L) (by decide)) (v := (2, (((5 + 89 * 0) : Nat) : Int))) (xsl2 rfl (ly_x1 L)) ?_
  refine xk_getf rfl (p := 8) rfl (xob (ly_st L hs) (by decide)) (v := (2, (((14 + 89 * 0) : Nat) : Int))) (xsl2 rfl (ly_s4 L hs)) ?_
  refine xk_load rfl (p := 9) rfl rfl ?_
  refine xk_load rfl (p := 10) rfl rfl ?_
  refine xk_call rfl (p := 13) rfl (by decide) rfl (Nat.le_of_ble_eq_true rfl) (Nat.le_of_ble_eq_true rfl) (xrv (ly_x L) (by decide)) (as := [(2, ((2 : Nat) : Int)), (2, ((14 + 89 * 0 : Nat) : Int)), (0, x), (0, y)]) (r := []) rfl (c_tell3 L hI hR) ?_
  rintro r5 g v5 ⟨rfl, hr5, hV5, hF5⟩
  obtain ⟨z5, hz5⟩ := y_book_i (m := m) (x := x) (y := y)
  rw [hz5] at hr5
  subst hr5
  exact xk_ret rfl rfl ⟨rfl, hz5.symm, hV5, hF5⟩

theorem c_plan {d : Nat} {g : xG} {t m : xD} {x y : Int} (L : xLay g) (hI : Inv m) (hR : Rep t 0 m) : xCall (d + 1) 94 [(2, ((2 : Nat) : Int)), (0, x), (0, y)] g t (zQ 0 g t (y_plan m x y)) := by
  show xOk (d + 1) 94 0 [(2, ((2 : Nat) : Int)), (0, x), (0, y)] [] g t _
  have iNn_ := iNn hI
  have hs : 0 < 3 := by decide
  have hs1 : 1 < 3 := by decide
  have hs2 : 2 < 3 := by decide
  refine xk_load rfl (p := 1) rfl rfl ?_
  refine xk_push rfl (p := 2) rfl ?_
  refine xk_icmp rfl (p := 5) rfl (fun c2_1 => ?_) (fun c2_1 => ?_)
  · replace c2_1 : ¬ (x = (-1)) := c2_1
    refine xk_load rfl (p := 19) rfl rfl ?_
    refine xk_if rfl (p := 22) rfl (fun c19_2 => ?_) (fun c19_2 => ?_)
    · replace c19_2 : x < 0 := c19_2
      refine xk_push rfl (p := 44) rfl ?_
      refine xk_ret rfl (rfl) ?_
      exact zRet (show y_plan m x y = (some (0, (-1)), m) from (by unfold y_plan; (repeat' split) <;> first | rfl | (exfalso; omega) | (congr 1; omega))) hR Fr.rf
    · replace c19_2 : ¬ (x < 0) := c19_2
      refine xk_load rfl (p := 23) rfl rfl ?_
      refine xk_push rfl (p := 24) rfl ?_
      refine xk_icmp rfl (p := 27) rfl (fun c24_3 => ?_) (fun c24_3 => ?_)
      · replace c24_3 : 4 ≤ x := c24_3
        refine xk_push rfl (p := 44) rfl ?_
        refine xk_ret rfl (rfl) ?_
        exact zRet (show y_plan m x y = (some (0, (-1)), m) from (by unfold y_plan; (repeat' split) <;> first | rfl | (exfalso; omega) | (congr 1; omega))) hR Fr.rf
      · replace c24_3 : ¬ (4 ≤ x) := c24_3
        refine xk_load rfl (p := 28) rfl rfl ?_
        refine xk_push rfl (p := 29) rfl ?_
        refine xk_icmp rfl (p := 32) rfl (fun c29_4 => ?_) (fun c29_4 => ?_)
        · replace c29_4 : ¬ (x = 3) := c29_4
          refine xk_load rfl (p := 46) rfl rfl ?_
          refine xk_getf rfl (p := 49) rfl (xob (ly_x L) (by decide)) (v := (2, (((5 + 89 * 0) : Nat) : Int))) (xsl2 rfl (ly_x1 L)) ?_
          refine xk_getf rfl (p := 52) rfl (xob (ly_st L hs) (by decide)) (v := (2, (((11 + 89 * 0) : Nat) : Int))) (xsl2 rfl (ly_s3 L hs)) ?_
          refine xk_load rfl (p := 53) rfl rfl ?_
          refine xk_load rfl (p := 54) rfl rfl ?_
          refine xk_call rfl (p := 57) rfl (by decide) rfl (Nat.le_of_ble_eq_true rfl) (Nat.le_of_ble_eq_true rfl) (xrv (ly_p2 L hs).1 (by decide)) (as := [(2, ((11 + 89 * 0 : Nat) : Int)), (0, x), (0, y)]) (r := []) rfl (c_add2 (z := if x = 3 then y else 0) L hs hI hR (fun h => if_pos h)) ?_
          rintro r4 g v4 ⟨rfl, hr4, hV4, hF4⟩
          have ey : y_plan m x y = (if m 292 22 = 10 then (some (0, -4), m) else (some (0, m 292 22 + 1), xupd (xupd (xupd m 308 (m 292 22).toNat x) 292 22 (m 292 22 + 1)) 309 (m 292 22).toNat (if x = 3 then y else 0))) := by
            unfold y_plan
            (repeat' split) <;> first | rfl | (exfalso; omega)
          by_cases cf : m 292 22 = 10
          · rw [if_pos cf] at hr4 hV4 ey
            subst hr4
            exact xk_ret rfl rfl (zRet ey hV4 hF4)
          · rw [if_neg cf] at hr4 hV4 ey
            subst hr4
            exact xk_ret rfl rfl (zRet ey hV4 hF4)
        · replace c29_4 : x = 3 := Decidable.not_not.mp c29_4
          refine xk_load rfl (p := 33) rfl rfl ?_
          refine xk_getf rfl (p := 36) rfl (xob (ly_x L) (by decide)) (v := (2, (((5 + 89 * 0) : Nat) : Int))) (xsl2 rfl (ly_x1 L)) ?_
          refine xk_load rfl (p := 37) rfl rfl ?_
          refine xk_callp rfl (p := 40) rfl (by decide) rfl (Nat.le_of_ble_eq_true rfl) (Nat.le_of_ble_eq_true rfl) (xrv (ly_st L hs) (by decide)) (as := [(2, (((5 + 89 * 0) : Nat) : Int)), (0, y)]) (r := []) rfl (v := (0, (if 0 ≤ y ∧ y < m 292 0 then (1 : Int) else 0))) (c_isName L hs hI hR) ?_
          have iNn_ := iNn hI
          refine xk_if rfl (p := 43) rfl (fun c40_5 => ?_) (fun c40_5 => ?_)
          · replace c40_5 : 0 ≤ y ∧ y < m 292 0 := xb_n0 c40_5
            refine xk_load rfl (p := 46) rfl rfl ?_
            refine xk_getf rfl (p := 49) rfl (xob (ly_x L) (by decide)) (v := (2, (((5 + 89 * 0) : Nat) : Int))) (xsl2 rfl (ly_x1 L)) ?_
            refine xk_getf rfl (p := 52) rfl (xob (ly_st L hs) (by decide)) (v := (2, (((11 + 89 * 0) : Nat) : Int))) (xsl2 rfl (ly_s3 L hs)) ?_
            refine xk_load rfl (p := 53) rfl rfl ?_
            refine xk_load rfl (p := 54) rfl rfl ?_
            refine xk_call rfl (p := 57) rfl (by decide) rfl (Nat.le_of_ble_eq_true rfl) (Nat.le_of_ble_eq_true rfl) (xrv (ly_p2 L hs).1 (by decide)) (as := [(2, ((11 + 89 * 0 : Nat) : Int)), (0, x), (0, y)]) (r := []) rfl (c_add2 (z := if x = 3 then y else 0) L hs hI hR (fun h => if_pos h)) ?_
            rintro r4 g v4 ⟨rfl, hr4, hV4, hF4⟩
            have ey : y_plan m x y = (if m 292 22 = 10 then (some (0, -4), m) else (some (0, m 292 22 + 1), xupd (xupd (xupd m 308 (m 292 22).toNat x) 292 22 (m 292 22 + 1)) 309 (m 292 22).toNat (if x = 3 then y else 0))) := by
              unfold y_plan
              (repeat' split) <;> first | rfl | (exfalso; omega)
            by_cases cf : m 292 22 = 10
            · rw [if_pos cf] at hr4 hV4 ey
              subst hr4
              exact xk_ret rfl rfl (zRet ey hV4 hF4)
            · rw [if_neg cf] at hr4 hV4 ey
              subst hr4
              exact xk_ret rfl rfl (zRet ey hV4 hF4)
          · replace c40_5 : ¬ (0 ≤ y ∧ y < m 292 0) := xb_e1 c40_5
            refine xk_push rfl (p := 44) rfl ?_
            refine xk_ret rfl (rfl) ?_
            exact zRet (show y_plan m x y = (some (0, (-1)), m) from (by unfold y_plan; (repeat' split) <;> first | rfl | (exfalso; omega) | (congr 1; omega))) hR Fr.rf
  · replace c2_1 : x = (-1) := Decidable.not_not.mp c2_1
    refine xk_load rfl (p := 6) rfl rfl ?_
    refine xk_getf rfl (p := 9) rfl (xob (ly_x L) (by decide)) (v := (2, (((5 + 89 * 0) : Nat) : Int))) (xsl2 rfl (ly_x1 L)) ?_
    refine xk_getf rfl (p := 12) rfl (xob (ly_st L hs) (by decide)) (v := (2, (((11 + 89 * 0) : Nat) : Int))) (xsl2 rfl (ly_s3 L hs)) ?_
    refine xk_push rfl (p := 13) rfl ?_
    refine xk_putf rfl (p := 16) rfl (xob ((ly_p2 L hs).1) (by decide)) rfl (by decide) (by decide) (fun h => absurd h (by decide)) (by omega) ?_
    refine xk_push rfl (p := 17) rfl ?_
    refine xk_ret rfl (rfl) ?_
    exact zRet (show y_plan m x y = (some (0, 0), xupd m 292 22 0) from (by unfold y_plan; (repeat' split) <;> first | rfl | (exfalso; omega) | (congr 1; omega))) (hR.clr2 hI) (Fr.rf.up (by omega) (by omega))
