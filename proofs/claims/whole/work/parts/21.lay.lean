/-! MORE RULES, AND WHAT LIES WHERE -/
theorem xb_e0 {P : Prop} [Decidable P] (h : (if P then (1 : Int) else 0) = 0) : ¬ P := fun p => by
  rw [if_pos p] at h
  exact absurd h (by decide)
theorem xb_n0 {P : Prop} [Decidable P] (h : ¬ (if P then (1 : Int) else 0) = 0) : P := Decidable.byContradiction (fun p => h (if_neg p))
theorem xb_e1 {P : Prop} [Decidable P] (h : ¬ ¬ (if P then (1 : Int) else 0) = 0) : ¬ P := xb_e0 (Decidable.not_not.mp h)
theorem xb_iff {P Q : Prop} [Decidable P] [Decidable Q] (h : P ↔ Q) : (if P then (1 : Int) else 0) = (if Q then (1 : Int) else 0) := by
  by_cases p : P
  · rw [if_pos p, if_pos (h.mp p)]
  · rw [if_neg p, if_neg (fun q => p (h.mpr q))]
theorem xCall_eq {d mi : Nat} {as : List xV} {g : xG} {t : xD} {tg : Nat} {x y : Int} (h : xCall d mi as g t (xQ g t (some (tg, x)))) (e : x = y) : xCall d mi as g t (xQ g t (some (tg, y))) := e ▸ h
theorem xOk_mono {d mi pc : Nat} {ls st : List xV} {g : xG} {t : xD} {P Q : Option xV → xG → xD → Prop} (h : xOk d mi pc ls st g t P) (hq : ∀ v g' t', P v g' t' → Q v g' t') : xOk d mi pc ls st g t Q := by
  obtain ⟨n, r, g', t', h1, h2⟩ := h
  exact ⟨n, r, g', t', h1, hq _ _ _ h2⟩
theorem xCall_mono {d mi : Nat} {as : List xV} {g : xG} {t : xD} {P Q : Option xV → xG → xD → Prop} (h : xCall d mi as g t P) (hq : ∀ v g' t', P v g' t' → Q v g' t') : xCall d mi as g t Q := xOk_mono h hq
section XT
variable {d mi pc len j : Nat} {i : Instr} {ls st r : List xV} {g : xG} {t : xD} {Q : Option xV → xG → xD → Prop}
theorem xk_stk {st' : List xV} (e : st = st') (h : xOk d mi pc ls st' g t Q) : xOk d mi pc ls st g t Q := e ▸ h
theorem xk_aldi {kd a : Nat} {x : Int} {v : xV} (hc : xcode mi pc = some ((i, len, j), (17, kd, 0, 0, []))) {p : Nat} (hp : pc + len = p) (hx : 0 ≤ x) (hv : xald kd a ((x.toNat : Nat) : Int) g t = some v) (h : xOk d mi p ls (v :: st) g t Q) : xOk d mi pc ls ((0, x) :: (2, ((a : Nat) : Int)) :: st) g t Q := by
  have e := Int.toNat_of_nonneg hx
  have := xk_ald (ls := ls) (st := st) (Q := Q) hc hp hv h
  rw [e] at this
  exact this
theorem xk_asti {kd a : Nat} {n : Int} {tg : Nat} {x : Int} (hc : xcode mi pc = some ((i, len, j), (18, kd, 0, 0, []))) {p : Nat} (hp : pc + len = p) (hx : 0 ≤ n) (hk : kd = 20 ∨ kd = 21) (htg : tg = (if kd = 21 then 1 else 0)) (hs : (g.2.1 a).1 = kd) (hn : n.toNat < (g.2.1 a).2) (ha : 2 ≤ a) (h : xOk d mi p ls st g (xupd t a n.toNat x) Q) : xOk d mi pc ls ((tg, x) :: (0, n) :: (2, ((a : Nat) : Int)) :: st) g t Q := by
  have e := Int.toNat_of_nonneg hx
  have := xk_ast (ls := ls) (st := st) (Q := Q) hc hp hk htg hs hn ha h
  rw [e] at this
  exact this
theorem xk_astbi {a : Nat} {n : Int} {x : Int} (hc : xcode mi pc = some ((i, len, j), (18, 22, 0, 0, []))) {p : Nat} (hp : pc + len = p) (hx : 0 ≤ n) (hs : (g.2.1 a).1 = 22) (hn : n.toNat < (g.2.1 a).2) (ha : 2 ≤ a) (h : xOk d mi p ls st g (xupd t a n.toNat (xi2b x)) Q) : xOk d mi pc ls ((0, x) :: (0, n) :: (2, ((a : Nat) : Int)) :: st) g t Q := by
  have e := Int.toNat_of_nonneg hx
  have := xk_astb (ls := ls) (st := st) (Q := Q) hc hp hs hn ha h
  rw [e] at this
  exact this
end XT
def xsb (a c n : Nat) : Bool := decide (1 ≤ a ∧ a < 319) && decide (xSHL.getD a (0, 0) = (c, n))
def xpb (a k p : Nat) : Bool := xPTL.contains (a, k, p)
def xLay (g : xG) : Prop := (∀ a, 1 ≤ a → a < 319 → g.2.1 a = xSHL.getD a (0, 0)) ∧ (∀ z : Nat × Nat × Nat, xPTL.contains z = true → g.2.2 z.1 z.2.1 = ((z.2.2 : Nat) : Int))
theorem xLs {g : xG} (L : xLay g) {a c n : Nat} (h : xsb a c n = true) : g.2.1 a = (c, n) := by
  unfold xsb at h
  simp only [Bool.and_eq_true, decide_eq_true_eq] at h
  rw [L.1 a h.1.1 h.1.2, h.2]
theorem xLp {g : xG} (L : xLay g) {a k p : Nat} (h : xpb a k p = true) : g.2.2 a k = ((p : Nat) : Int) := L.2 (a, k, p) h
/-- a Bool that holds below K -/
theorem xball {p : Nat → Bool} {K : Nat} (h : (List.range K).all p = true) {n : Nat} (hn : n < K) : p n = true := List.all_eq_true.mp h n (List.mem_range.mpr hn)
theorem xball2 {p : Nat → Nat → Bool} {K M : Nat} (h : (List.range K).all (fun s => (List.range M).all (p s)) = true) {s n : Nat} (hs : s < K) (hn : n < M) : p s n = true := xball (xball h hs) hn
def xDlb (a : Nat) : Bool := xsb a 0 6 && (xsb (a + 1) 20 4 && (xsb (a + 2) 20 4 && (xsb (a + 3) 20 4 && (xpb a 0 (a + 1) && (xpb a 1 (a + 2) && xpb a 2 (a + 3))))))
def xJrb (a : Nat) : Bool := xsb a 1 4 && (xsb (a + 1) 20 6 && (xsb (a + 2) 20 6 && (xsb (a + 3) 20 6 && (xpb a 0 (a + 1) && (xpb a 1 (a + 2) && xpb a 2 (a + 3))))))
def xPrb (a : Nat) : Bool := xsb a 4 4 && (xsb (a + 1) 20 10 && (xsb (a + 2) 20 10 && (xpb a 0 (a + 1) && xpb a 1 (a + 2))))
def xTpb (a : Nat) : Bool := xsb a 6 3 && (xsb (a + 1) 21 60 && xpb a 0 (a + 1))
def xNmb (a : Nat) : Bool := xsb a 2 8 && (xJrb (a + 1) && xpb a 0 (a + 1))
theorem xDlb_ok {g : xG} (L : xLay g) {a : Nat} (h : xDlb a = true) : xDl g a := by
  unfold xDlb at h
  simp only [Bool.and_eq_true] at h
  exact ⟨xLs L h.1, xLs L h.2.1, xLs L h.2.2.1, xLs L h.2.2.2.1, xLp L h.2.2.2.2.1, xLp L h.2.2.2.2.2.1, xLp L h.2.2.2.2.2.2⟩
theorem xJrb_ok {g : xG} (L : xLay g) {a : Nat} (h : xJrb a = true) : xJr g a := by
  unfold xJrb at h
  simp only [Bool.and_eq_true] at h
  exact ⟨xLs L h.1, xLs L h.2.1, xLs L h.2.2.1, xLs L h.2.2.2.1, xLp L h.2.2.2.2.1, xLp L h.2.2.2.2.2.1, xLp L h.2.2.2.2.2.2⟩
theorem xPrb_ok {g : xG} (L : xLay g) {a : Nat} (h : xPrb a = true) : xPr g a := by
  unfold xPrb at h
  simp only [Bool.and_eq_true] at h
  exact ⟨xLs L h.1, xLs L h.2.1, xLs L h.2.2.1, xLp L h.2.2.2.1, xLp L h.2.2.2.2⟩
theorem xTpb_ok {g : xG} (L : xLay g) {a : Nat} (h : xTpb a = true) : xTp g a := by
  unfold xTpb at h
  simp only [Bool.and_eq_true] at h
  exact ⟨xLs L h.1, xLs L h.2.1, xLp L h.2.2⟩
theorem xNmb_ok {g : xG} (L : xLay g) {a : Nat} (h : xNmb a = true) : xNm g a := by
  unfold xNmb at h
  simp only [Bool.and_eq_true] at h
  exact ⟨xLs L h.1, xJrb_ok L h.2.1, xLp L h.2.2⟩
section LY
variable {g : xG} {s n : Nat}
theorem ly_nm (L : xLay g) (hs : s < 3) (hn : n < 12) : xNm g (18 + 89 * s + 5 * n) := xNmb_ok L (xball2 (p := fun s n => xNmb (18 + 89 * s + 5 * n)) (by decide +kernel) hs hn)
theorem ly_dl (L : xLay g) (hs : s < 3) (hn : n < 4) : xDl g (78 + 89 * s + 4 * n) := xDlb_ok L (xball2 (p := fun s n => xDlb (78 + 89 * s + 4 * n)) (by decide +kernel) hs hn)
theorem ly_p1 (L : xLay g) (hs : s < 3) : xPr g (8 + 89 * s) := xPrb_ok L (xball (p := fun s => xPrb (8 + 89 * s)) (by decide +kernel) hs)
theorem ly_p2 (L : xLay g) (hs : s < 3) : xPr g (11 + 89 * s) := xPrb_ok L (xball (p := fun s => xPrb (11 + 89 * s)) (by decide +kernel) hs)
theorem ly_p3 (L : xLay g) (hs : s < 3) : xPr g (14 + 89 * s) := xPrb_ok L (xball (p := fun s => xPrb (14 + 89 * s)) (by decide +kernel) hs)
theorem ly_st (L : xLay g) (hs : s < 3) : g.2.1 (5 + 89 * s) = (5, 12) := xLs L (xball (p := fun s => xsb (5 + 89 * s) 5 12) (by decide +kernel) hs)
theorem ly_sn (L : xLay g) (hs : s < 3) : g.2.1 (6 + 89 * s) = (23, 12) := xLs L (xball (p := fun s => xsb (6 + 89 * s) 23 12) (by decide +kernel) hs)
theorem ly_sd (L : xLay g) (hs : s < 3) : g.2.1 (7 + 89 * s) = (24, 4) := xLs L (xball (p := fun s => xsb (7 + 89 * s) 24 4) (by decide +kernel) hs)
theorem ly_sr (L : xLay g) (hs : s < 3) : g.2.1 (17 + 89 * s) = (20, 12) := xLs L (xball (p := fun s => xsb (17 + 89 * s) 20 12) (by decide +kernel) hs)
theorem ly_s0 (L : xLay g) (hs : s < 3) : g.2.2 (5 + 89 * s) 0 = ((6 + 89 * s : Nat) : Int) := xLp L (xball (p := fun s => xpb (5 + 89 * s) 0 (6 + 89 * s)) (by decide +kernel) hs)
theorem ly_s1 (L : xLay g) (hs : s < 3) : g.2.2 (5 + 89 * s) 1 = ((7 + 89 * s : Nat) : Int) := xLp L (xball (p := fun s => xpb (5 + 89 * s) 1 (7 + 89 * s)) (by decide +kernel) hs)
theorem ly_s2 (L : xLay g) (hs : s < 3) : g.2.2 (5 + 89 * s) 2 = ((8 + 89 * s : Nat) : Int) := xLp L (xball (p := fun s => xpb (5 + 89 * s) 2 (8 + 89 * s)) (by decide +kernel) hs)
theorem ly_s3 (L : xLay g) (hs : s < 3) : g.2.2 (5 + 89 * s) 3 = ((11 + 89 * s : Nat) : Int) := xLp L (xball (p := fun s => xpb (5 + 89 * s) 3 (11 + 89 * s)) (by decide +kernel) hs)
theorem ly_s4 (L : xLay g) (hs : s < 3) : g.2.2 (5 + 89 * s) 4 = ((14 + 89 * s : Nat) : Int) := xLp L (xball (p := fun s => xpb (5 + 89 * s) 4 (14 + 89 * s)) (by decide +kernel) hs)
theorem ly_s5 (L : xLay g) (hs : s < 3) : g.2.2 (5 + 89 * s) 5 = ((17 + 89 * s : Nat) : Int) := xLp L (xball (p := fun s => xpb (5 + 89 * s) 5 (17 + 89 * s)) (by decide +kernel) hs)
theorem ly_ne (L : xLay g) (hs : s < 3) (hn : n < 12) : g.2.2 (6 + 89 * s) n = ((18 + 89 * s + 5 * n : Nat) : Int) := xLp L (xball2 (p := fun s n => xpb (6 + 89 * s) n (18 + 89 * s + 5 * n)) (by decide +kernel) hs hn)
theorem ly_de (L : xLay g) (hs : s < 3) (hn : n < 4) : g.2.2 (7 + 89 * s) n = ((78 + 89 * s + 4 * n : Nat) : Int) := xLp L (xball2 (p := fun s n => xpb (7 + 89 * s) n (78 + 89 * s + 4 * n)) (by decide +kernel) hs hn)
theorem ly_oi (L : xLay g) (hn : n < 5) : g.2.1 (274 + n) = (20, 12) := xLs L (xball (p := fun n => xsb (274 + n) 20 12) (by decide +kernel) hn)
theorem ly_oe (L : xLay g) (hn : n < 5) : g.2.2 273 n = ((274 + n : Nat) : Int) := xLp L (xball (p := fun n => xpb 273 n (274 + n)) (by decide +kernel) hn)
theorem ly_tp (L : xLay g) (hn : n < 6) : xTp g (280 + 2 * n) := xTpb_ok L (xball (p := fun n => xTpb (280 + 2 * n)) (by decide +kernel) hn)
theorem ly_te (L : xLay g) (hn : n < 6) : g.2.2 279 n = ((280 + 2 * n : Nat) : Int) := xLp L (xball (p := fun n => xpb 279 n (280 + 2 * n)) (by decide +kernel) hn)
theorem ly_tx (L : xLay g) : xTx g := ⟨xLs L (by decide +kernel), xLs L (by decide +kernel), xLp L (by decide +kernel)⟩
theorem ly_s (L : xLay g) {a c n : Nat} (h : xsb a c n = true) : g.2.1 a = (c, n) := xLs L h
end LY
theorem ly_m {g : xG} (L : xLay g) : g.2.1 292 = (9, 42) := xLs L (by decide +kernel)
theorem ly_ms1 {g : xG} (L : xLay g) : g.2.1 293 = (20, 96) := xLs L (by decide +kernel)
theorem ly_mp1 {g : xG} (L : xLay g) : g.2.2 292 1 = ((293 : Nat) : Int) := xLp L (by decide +kernel)
theorem ly_ms2 {g : xG} (L : xLay g) : g.2.1 294 = (20, 12) := xLs L (by decide +kernel)
theorem ly_mp2 {g : xG} (L : xLay g) : g.2.2 292 2 = ((294 : Nat) : Int) := xLp L (by decide +kernel)
theorem ly_ms3 {g : xG} (L : xLay g) : g.2.1 295 = (20, 12) := xLs L (by decide +kernel)
theorem ly_mp3 {g : xG} (L : xLay g) : g.2.2 292 3 = ((295 : Nat) : Int) := xLp L (by decide +kernel)
theorem ly_ms4 {g : xG} (L : xLay g) : g.2.1 296 = (20, 12) := xLs L (by decide +kernel)
theorem ly_mp4 {g : xG} (L : xLay g) : g.2.2 292 4 = ((296 : Nat) : Int) := xLp L (by decide +kernel)
theorem ly_ms5 {g : xG} (L : xLay g) : g.2.1 297 = (20, 12) := xLs L (by decide +kernel)
theorem ly_mp5 {g : xG} (L : xLay g) : g.2.2 292 5 = ((297 : Nat) : Int) := xLp L (by decide +kernel)
theorem ly_ms7 {g : xG} (L : xLay g) : g.2.1 298 = (20, 12) := xLs L (by decide +kernel)
theorem ly_mp7 {g : xG} (L : xLay g) : g.2.2 292 7 = ((298 : Nat) : Int) := xLp L (by decide +kernel)
theorem ly_ms8 {g : xG} (L : xLay g) : g.2.1 299 = (20, 216) := xLs L (by decide +kernel)
theorem ly_mp8 {g : xG} (L : xLay g) : g.2.2 292 8 = ((299 : Nat) : Int) := xLp L (by decide +kernel)
theorem ly_ms9 {g : xG} (L : xLay g) : g.2.1 300 = (20, 4) := xLs L (by decide +kernel)
theorem ly_mp9 {g : xG} (L : xLay g) : g.2.2 292 9 = ((300 : Nat) : Int) := xLp L (by decide +kernel)
theorem ly_ms10 {g : xG} (L : xLay g) : g.2.1 301 = (20, 4) := xLs L (by decide +kernel)
theorem ly_mp10 {g : xG} (L : xLay g) : g.2.2 292 10 = ((301 : Nat) : Int) := xLp L (by decide +kernel)
theorem ly_ms11 {g : xG} (L : xLay g) : g.2.1 302 = (20, 4) := xLs L (by decide +kernel)
theorem ly_mp11 {g : xG} (L : xLay g) : g.2.2 292 11 = ((302 : Nat) : Int) := xLp L (by decide +kernel)
theorem ly_ms12 {g : xG} (L : xLay g) : g.2.1 303 = (20, 48) := xLs L (by decide +kernel)
theorem ly_mp12 {g : xG} (L : xLay g) : g.2.2 292 12 = ((303 : Nat) : Int) := xLp L (by decide +kernel)
theorem ly_ms16 {g : xG} (L : xLay g) : g.2.1 304 = (20, 12) := xLs L (by decide +kernel)
theorem ly_mp16 {g : xG} (L : xLay g) : g.2.2 292 16 = ((304 : Nat) : Int) := xLp L (by decide +kernel)
theorem ly_ms18 {g : xG} (L : xLay g) : g.2.1 305 = (20, 100) := xLs L (by decide +kernel)
theorem ly_mp18 {g : xG} (L : xLay g) : g.2.2 292 18 = ((305 : Nat) : Int) := xLp L (by decide +kernel)
theorem ly_ms20 {g : xG} (L : xLay g) : g.2.1 306 = (20, 5) := xLs L (by decide +kernel)
theorem ly_mp20 {g : xG} (L : xLay g) : g.2.2 292 20 = ((306 : Nat) : Int) := xLp L (by decide +kernel)
theorem ly_ms21 {g : xG} (L : xLay g) : g.2.1 307 = (20, 5) := xLs L (by decide +kernel)
theorem ly_mp21 {g : xG} (L : xLay g) : g.2.2 292 21 = ((307 : Nat) : Int) := xLp L (by decide +kernel)
theorem ly_ms23 {g : xG} (L : xLay g) : g.2.1 308 = (20, 10) := xLs L (by decide +kernel)
theorem ly_mp23 {g : xG} (L : xLay g) : g.2.2 292 23 = ((308 : Nat) : Int) := xLp L (by decide +kernel)
theorem ly_ms24 {g : xG} (L : xLay g) : g.2.1 309 = (20, 10) := xLs L (by decide +kernel)
theorem ly_mp24 {g : xG} (L : xLay g) : g.2.2 292 24 = ((309 : Nat) : Int) := xLp L (by decide +kernel)
theorem ly_ms26 {g : xG} (L : xLay g) : g.2.1 310 = (20, 8) := xLs L (by decide +kernel)
theorem ly_mp26 {g : xG} (L : xLay g) : g.2.2 292 26 = ((310 : Nat) : Int) := xLp L (by decide +kernel)
theorem ly_ms27 {g : xG} (L : xLay g) : g.2.1 311 = (20, 8) := xLs L (by decide +kernel)
theorem ly_mp27 {g : xG} (L : xLay g) : g.2.2 292 27 = ((311 : Nat) : Int) := xLp L (by decide +kernel)
theorem ly_ms29 {g : xG} (L : xLay g) : g.2.1 312 = (20, 16) := xLs L (by decide +kernel)
theorem ly_mp29 {g : xG} (L : xLay g) : g.2.2 292 29 = ((312 : Nat) : Int) := xLp L (by decide +kernel)
theorem ly_ms30 {g : xG} (L : xLay g) : g.2.1 313 = (20, 482) := xLs L (by decide +kernel)
theorem ly_mp30 {g : xG} (L : xLay g) : g.2.2 292 30 = ((313 : Nat) : Int) := xLp L (by decide +kernel)
theorem ly_ms31 {g : xG} (L : xLay g) : g.2.1 314 = (20, 482) := xLs L (by decide +kernel)
theorem ly_mp31 {g : xG} (L : xLay g) : g.2.2 292 31 = ((314 : Nat) : Int) := xLp L (by decide +kernel)
theorem ly_ms32 {g : xG} (L : xLay g) : g.2.1 315 = (20, 60) := xLs L (by decide +kernel)
theorem ly_mp32 {g : xG} (L : xLay g) : g.2.2 292 32 = ((315 : Nat) : Int) := xLp L (by decide +kernel)
theorem ly_ms39 {g : xG} (L : xLay g) : g.2.1 316 = (20, 6) := xLs L (by decide +kernel)
theorem ly_mp39 {g : xG} (L : xLay g) : g.2.2 292 39 = ((316 : Nat) : Int) := xLp L (by decide +kernel)
theorem ly_ms40 {g : xG} (L : xLay g) : g.2.1 317 = (20, 6) := xLs L (by decide +kernel)
theorem ly_mp40 {g : xG} (L : xLay g) : g.2.2 292 40 = ((317 : Nat) : Int) := xLp L (by decide +kernel)
theorem ly_ms41 {g : xG} (L : xLay g) : g.2.1 318 = (21, 360) := xLs L (by decide +kernel)
theorem ly_mp41 {g : xG} (L : xLay g) : g.2.2 292 41 = ((318 : Nat) : Int) := xLp L (by decide +kernel)
theorem ly_x {g : xG} (L : xLay g) : g.2.1 2 = (8, 7) := xLs L (by decide +kernel)
theorem ly_x0 {g : xG} (L : xLay g) : g.2.2 2 0 = ((3 : Nat) : Int) := xLp L (by decide +kernel)
theorem ly_x1 {g : xG} (L : xLay g) : g.2.2 2 1 = ((5 : Nat) : Int) := xLp L (by decide +kernel)
theorem ly_x2 {g : xG} (L : xLay g) : g.2.2 2 2 = ((94 : Nat) : Int) := xLp L (by decide +kernel)
theorem ly_x3 {g : xG} (L : xLay g) : g.2.2 2 3 = ((183 : Nat) : Int) := xLp L (by decide +kernel)
theorem ly_x4 {g : xG} (L : xLay g) : g.2.2 2 4 = ((272 : Nat) : Int) := xLp L (by decide +kernel)
theorem ly_x5 {g : xG} (L : xLay g) : g.2.2 2 5 = ((279 : Nat) : Int) := xLp L (by decide +kernel)
theorem ly_o {g : xG} (L : xLay g) : g.2.1 272 = (3, 9) := xLs L (by decide +kernel)
theorem ly_oo {g : xG} (L : xLay g) : g.2.1 273 = (26, 5) := xLs L (by decide +kernel)
theorem ly_o0 {g : xG} (L : xLay g) : g.2.2 272 0 = ((273 : Nat) : Int) := xLp L (by decide +kernel)
theorem ly_tt {g : xG} (L : xLay g) : g.2.1 279 = (25, 6) := xLs L (by decide +kernel)
theorem ly_ka {g : xG} (L : xLay g) : g.2.1 1 = (20, 4) := xLs L (by decide +kernel)
/-- the place of the first, or z -/
def xiy (K k : Nat) (z : Int) : Int := if k < K then (k : Int) else z
def xex (p : Nat → Bool) (K : Nat) : Prop := xfst p K < K
theorem xex_def {p : Nat → Bool} {K : Nat} : xex p K = (xfst p K < K) := rfl
def xexb (p : Nat → Bool) (K : Nat) : Bool := Nat.blt (xfst p K) K
section XF
variable {P : Nat → Prop} {K k : Nat} {z : Int}
theorem xf1 [∀ i, Decidable (P i)] (hk : k < K) (h1 : ∀ i, i < k → ¬ P i) (h2 : P k) : xfst (fun i => decide (P i)) K = k := xfst_eq (by omega) (fun i hi => decide_eq_false (h1 i hi)) (fun _ => decide_eq_true h2)
theorem xf0 [∀ i, Decidable (P i)] (h1 : ∀ i, i < K → ¬ P i) : xfst (fun i => decide (P i)) K = K := xfst_eq (Nat.le_refl K) (fun i hi => decide_eq_false (h1 i hi)) (fun h => absurd h (Nat.lt_irrefl K))
theorem xfeq [∀ i, Decidable (P i)] (hk : k ≤ K) (h1 : ∀ i, i < k → ¬ P i) (h2 : P k) : xfst (fun i => decide (P i)) K = k := xfst_eq hk (fun i hi => decide_eq_false (h1 i hi)) (fun _ => decide_eq_true h2)
theorem xixf1 [∀ i, Decidable (P i)] (hk : k < K) (h1 : ∀ i, i < k → ¬ P i) (h2 : P k) : ((k : Nat) : Int) = xix K (xfst (fun i => decide (P i)) K) := by
  rw [xf1 hk h1 h2]
  exact (if_pos hk).symm
theorem xixf0 [∀ i, Decidable (P i)] (hk : K ≤ k) (h1 : ∀ i, i < k → ¬ P i) : (-1 : Int) = xix K (xfst (fun i => decide (P i)) K) := by
  rw [xf0 (fun i hi => h1 i (by omega))]
  exact (if_neg (Nat.lt_irrefl K)).symm
theorem xiyf1 [∀ i, Decidable (P i)] (hk : k < K) (h1 : ∀ i, i < k → ¬ P i) (h2 : P k) : ((k : Nat) : Int) = xiy K (xfst (fun i => decide (P i)) K) z := by
  rw [xf1 hk h1 h2]
  exact (if_pos hk).symm
theorem xiyf0 [∀ i, Decidable (P i)] (hk : K ≤ k) (h1 : ∀ i, i < k → ¬ P i) : z = xiy K (xfst (fun i => decide (P i)) K) z := by
  rw [xf0 (fun i hi => h1 i (by omega))]
  exact (if_neg (Nat.lt_irrefl K)).symm
theorem xexf1 [∀ i, Decidable (P i)] (hk : k < K) (h1 : ∀ i, i < k → ¬ P i) (h2 : P k) : xexb (fun i => decide (P i)) K = true := by
  unfold xexb
  rw [xf1 hk h1 h2]
  exact Nat.blt_eq.mpr hk
theorem xexf0 [∀ i, Decidable (P i)] (hk : K ≤ k) (h1 : ∀ i, i < k → ¬ P i) : ¬ xexb (fun i => decide (P i)) K = true := by
  unfold xexb
  rw [xf0 (fun i hi => h1 i (by omega)), Nat.blt_eq]
  exact Nat.lt_irrefl K
end XF
theorem xexb_iff {p : Nat → Bool} {K : Nat} : xexb p K = true ↔ ∃ i, i < K ∧ p i = true := by
  unfold xexb
  rw [Nat.blt_eq]
  constructor
  · intro h
    exact ⟨_, h, xfst_at p K h⟩
  · rintro ⟨i, hi, hp⟩
    refine Nat.lt_of_not_le (fun h => ?_)
    have e : xfst p K = K := Nat.le_antisymm (xfst_le p K) h
    have := xfst_lt p K i (by omega)
    rw [hp] at this
    cases this
theorem xix_rng {p : Nat → Bool} {K : Nat} : -1 ≤ xix K (xfst p K) ∧ xix K (xfst p K) < K ∧ (xix K (xfst p K) = -1 ∨ 0 ≤ xix K (xfst p K)) := by
  unfold xix
  split <;> omega
/-- what is there at the place found -/
theorem xix_at {P : Nat → Prop} [∀ i, Decidable (P i)] {K : Nat} (h : ¬ xix K (xfst (fun i => decide (P i)) K) = -1) : P (xix K (xfst (fun i => decide (P i)) K)).toNat ∧ (xix K (xfst (fun i => decide (P i)) K)).toNat < K ∧ ∀ i, i < (xix K (xfst (fun i => decide (P i)) K)).toNat → ¬ P i := by
  unfold xix at h ⊢
  by_cases c : xfst (fun i => decide (P i)) K < K
  · rw [if_pos c]
    exact ⟨of_decide_eq_true (xfst_at _ K c), c, fun i hi => of_decide_eq_false (xfst_lt (fun i => decide (P i)) K i hi)⟩
  · rw [if_neg c] at h
    exact absurd rfl h
theorem xix_no {P : Nat → Prop} [∀ i, Decidable (P i)] {K : Nat} (h : xix K (xfst (fun i => decide (P i)) K) = -1) : ∀ i, i < K → ¬ P i := by
  unfold xix at h
  by_cases c : xfst (fun i => decide (P i)) K < K
  · rw [if_pos c] at h
    omega
  · intro i hi
    have := xfst_le (fun i => decide (P i)) K
    exact of_decide_eq_false (xfst_lt (fun i => decide (P i)) K i (by omega))
theorem xcnt_in {p : Nat → Bool} {k z : Nat} (h : z = xcnt p k) (hp : p k = true) : z + 1 = xcnt p (k + 1) := by
  show _ = xcnt p k + (if p k = true then 1 else 0)
  rw [if_pos hp, h]
theorem xcnt_out {p : Nat → Bool} {k z : Nat} (h : z = xcnt p k) (hp : ¬ p k = true) : z = xcnt p (k + 1) := by
  show _ = xcnt p k + (if p k = true then 1 else 0)
  rw [if_neg hp, h]
  rfl
theorem xcnt_le {p : Nat → Bool} : ∀ k, xcnt p k ≤ k
  | 0 => Nat.le_refl 0
  | k + 1 => by
    have := xcnt_le (p := p) k
    show xcnt p k + (if p k = true then 1 else 0) ≤ k + 1
    split <;> omega
/-! SETS AS BITS -/
def xbs (p : Nat → Bool) (K : Nat) : Nat := xors (fun i => if p i = true then 2 ^ i else 0) K
theorem p12 {k : Nat} (h : k < 12) : 2 ^ k < 4096 := Nat.pow_lt_pow_right (n := 12) (by decide) h
theorem p4 {k : Nat} (h : k < 4) : 2 ^ k < 16 := Nat.pow_lt_pow_right (n := 4) (by decide) h
theorem or_s {n m : Nat} (h1 : n < 4096) (h2 : m < 4096) : n ||| m < 4096 := Nat.or_lt_two_pow (n := 12) h1 h2
theorem xor_s {n m : Nat} (h1 : n < 4096) (h2 : m < 4096) : xor_ ((n : Nat) : Int) ((m : Nat) : Int) = ((n ||| m : Nat) : Int) := xor_n (Nat.lt_trans h1 (by decide)) (Nat.lt_trans h2 (by decide))
theorem xand_s {n m : Nat} (h1 : n < 4096) (h2 : m < 4096) : xand ((n : Nat) : Int) ((m : Nat) : Int) = ((n &&& m : Nat) : Int) := xand_n (Nat.lt_trans h1 (by decide)) (Nat.lt_trans h2 (by decide))
theorem xbs_lt {p : Nat → Bool} {K : Nat} (h : K ≤ 12) : xbs p K < 4096 := xors_lt (n := 12) K (fun i hi => by
  show (if p i = true then 2 ^ i else 0) < 2 ^ 12
  split
  · exact p12 (by omega)
  · decide)
theorem xbs_lt4 {p : Nat → Bool} {K : Nat} (h : K ≤ 4) : xbs p K < 16 := xors_lt (n := 4) K (fun i hi => by
  show (if p i = true then 2 ^ i else 0) < 2 ^ 4
  split
  · exact p4 (by omega)
  · decide)
theorem xbs_in {p : Nat → Bool} {k z : Nat} (h : z = xbs p k) (hp : p k = true) : z ||| 2 ^ k = xbs p (k + 1) := xors_in h (if_pos hp)
theorem xbs_out {p : Nat → Bool} {k z : Nat} (h : z = xbs p k) (hp : ¬ p k = true) : z = xbs p (k + 1) := xors_out h (if_neg hp)
theorem xbs_bit {p : Nat → Bool} {K j : Nat} : (xbs p K).testBit j = true ↔ j < K ∧ p j = true := by
  unfold xbs
  rw [xors_bit]
  constructor
  · rintro ⟨i, hi, h⟩
    by_cases c : p i = true
    · simp only [if_pos c] at h
      have e : j = i := by
        rw [Nat.testBit_two_pow] at h
        exact (of_decide_eq_true h).symm
      subst e
      exact ⟨hi, c⟩
    · simp only [if_neg c, Nat.zero_testBit] at h
      cases h
  · rintro ⟨h, hp⟩
    exact ⟨j, h, by simp only [if_pos hp, Nat.testBit_two_pow_self]⟩
theorem xshr_n {z n : Nat} (h : z < 2147483648) (hn : n < 31) : xshr ((z : Nat) : Int) ((n : Nat) : Int) = ((z >>> n : Nat) : Int) := by
  have e1 : ∀ n : Nat, n < 31 → ((Int32.ofInt ((n : Nat) : Int) &&& 31).toBitVec.smod 32).toNat = n := by decide +kernel
  unfold xshr
  show (BitVec.sshiftRight' (Int32.ofInt ((z : Nat) : Int)).toBitVec ((Int32.ofInt ((n : Nat) : Int) &&& 31).toBitVec.smod 32)).toInt = _
  unfold BitVec.sshiftRight'
  rw [e1 n hn, BitVec.toInt_sshiftRight]
  rw [show (Int32.ofInt ((z : Nat) : Int)).toBitVec.toInt = ((z : Nat) : Int) from i32_rt (by omega) (by omega)]
  rfl
theorem xbit_t {z n : Nat} (h : z < 4096) (hn : n < 12) : xand (xshr ((z : Nat) : Int) ((n : Nat) : Int)) 1 = (if z.testBit n = true then (1 : Int) else 0) := by
  have hz : z >>> n ≤ z := by rw [Nat.shiftRight_eq_div_pow]; exact Nat.div_le_self _ _
  rw [xshr_n (by omega) (by omega), show (1 : Int) = ((1 : Nat) : Int) from rfl, xand_n (by omega) (by decide), Nat.and_one_is_mod]
  have e : z.testBit n = decide (z >>> n % 2 = 1) := by
    rw [Nat.testBit_eq_decide_div_mod_eq, Nat.shiftRight_eq_div_pow]
  rw [e]
  by_cases c : z >>> n % 2 = 1
  · rw [if_pos (decide_eq_true c), c]
  · rw [if_neg (fun w => c (of_decide_eq_true w))]
    omega
/-- a set without another -/
def xdf (z y : Nat) : Nat := z &&& (4095 ^^^ y)
theorem xdf_lt {z y : Nat} (h : z < 4096) : xdf z y < 4096 := Nat.lt_of_le_of_lt Nat.and_le_left h
theorem xdf_bit {z y j : Nat} (hj : j < 12) : (xdf z y).testBit j = true ↔ z.testBit j = true ∧ ¬ y.testBit j = true := by
  have e : (4095 : Nat).testBit j = true := by
    have : ∀ j, j < 12 → (4095 : Nat).testBit j = true := by decide
    exact this j hj
  unfold xdf
  rw [Nat.testBit_and, Nat.testBit_xor, e]
  cases z.testBit j <;> cases y.testBit j <;> simp
theorem xandn_s {z y : Nat} (h1 : z < 4096) (h2 : y < 4096) : xand ((z : Nat) : Int) (xxor ((y : Nat) : Int) (-1)) = ((xdf z y : Nat) : Int) := by
  have a1 : (Int32.ofInt ((z : Nat) : Int)).toBitVec = BitVec.ofNat 32 z := by
    show BitVec.ofInt 32 ((z : Nat) : Int) = _
    rw [BitVec.ofInt_natCast]
  have a2 : (Int32.ofInt ((y : Nat) : Int)).toBitVec = BitVec.ofNat 32 y := by
    show BitVec.ofInt 32 ((y : Nat) : Int) = _
    rw [BitVec.ofInt_natCast]
  have e : (Int32.ofInt ((z : Nat) : Int) &&& Int32.ofInt (xxor ((y : Nat) : Int) (-1))) = Int32.ofInt ((xdf z y : Nat) : Int) := by
    unfold xxor
    rw [Int32.ofInt_toInt]
    apply Int32.toBitVec.inj
    rw [Int32.toBitVec_and, Int32.toBitVec_xor, a1, a2]
    show _ &&& (_ ^^^ (Int32.ofInt (-1)).toBitVec) = BitVec.ofInt 32 ((xdf z y : Nat) : Int)
    rw [BitVec.ofInt_natCast]
    apply BitVec.eq_of_getLsbD_eq
    intro i hi
    rw [BitVec.getLsbD_and, BitVec.getLsbD_xor, BitVec.getLsbD_ofNat, BitVec.getLsbD_ofNat, BitVec.getLsbD_ofNat]
    have hm : ((Int32.ofInt (-1)).toBitVec).getLsbD i = true := by
      have : ∀ i, i < 32 → ((Int32.ofInt (-1)).toBitVec).getLsbD i = true := by decide
      exact this i hi
    rw [hm, show decide (i < 32) = true from decide_eq_true hi, Bool.true_and, Bool.true_and, Bool.true_and]
    unfold xdf
    rw [Nat.testBit_and, Nat.testBit_xor]
    by_cases c : i < 12
    · have : ∀ j, j < 12 → (4095 : Nat).testBit j = true := by decide
      rw [this i c]
      cases z.testBit i <;> cases y.testBit i <;> rfl
    · have hz : z.testBit i = false := Nat.testBit_lt_two_pow (Nat.lt_of_lt_of_le h1 (Nat.pow_le_pow_right (n := 2) (i := 12) (by decide) (by omega)))
      rw [hz]
      rfl
  unfold xand
  rw [e]
  have := xdf_lt (y := y) h1
  exact i32_rt (by omega) (by omega)
theorem xbit_i {z : Nat} {y : Int} (h : z < 4096) (h0 : 0 ≤ y) (h1 : y < 12) : xand (xshr ((z : Nat) : Int) y) 1 = (if z.testBit y.toNat = true then (1 : Int) else 0) := by
  have e := Int.toNat_of_nonneg h0
  have := xbit_t h (n := y.toNat) (by omega)
  rw [e] at this
  exact this
/-- ten times the first row at fault, and the fault -/
def wF (w : Nat → Int) (R : Nat) : Int := if xfst (fun r => decide (0 < w r)) R < R then 10 * ((xfst (fun r => decide (0 < w r)) R : Nat) : Int) + w (xfst (fun r => decide (0 < w r)) R) else 0
theorem wF_at {w : Nat → Int} {R k : Nat} {c : Int} (hk : k < R) (h1 : ∀ i, i < k → ¬ 0 < w i) (h : w k = c) (hc : 0 < c) : wF w R = 10 * ((k : Nat) : Int) + c := by
  unfold wF
  rw [xf1 (P := fun r => 0 < w r) hk h1 (by rw [h]; exact hc), if_pos hk, h]
theorem wF_no {w : Nat → Int} {R : Nat} (h1 : ∀ i, i < R → ¬ 0 < w i) : wF w R = 0 := by
  unfold wF
  rw [xf0 (P := fun r => 0 < w r) h1]
  exact if_neg (Nat.lt_irrefl R)
theorem wF_congr {w v : Nat → Int} {R : Nat} (h : ∀ i, i < R → w i = v i) : wF w R = wF v R := by
  by_cases c : ∃ k, k < R ∧ 0 < w k
  · obtain ⟨k, hk, hw⟩ := c
    have e : xexb (fun r => decide (0 < w r)) R = true := xexb_iff.mpr ⟨k, hk, decide_eq_true hw⟩
    have hl : xfst (fun r => decide (0 < w r)) R < R := Nat.blt_eq.mp e
    have a1 := of_decide_eq_true (xfst_at (fun r => decide (0 < w r)) R hl)
    have a2 : ∀ i, i < xfst (fun r => decide (0 < w r)) R → ¬ 0 < w i := fun i hi => of_decide_eq_false (xfst_lt (fun r => decide (0 < w r)) R i hi)
    rw [wF_at hl a2 rfl a1, wF_at (w := v) hl (fun i hi => by rw [← h i (by omega)]; exact a2 i hi) (h _ hl).symm a1]
  · rw [wF_no (fun i hi hw => c ⟨i, hi, hw⟩), wF_no (fun i hi hw => c ⟨i, hi, by rw [h i hi]; exact hw⟩)]
