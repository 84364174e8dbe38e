/-! A NEW NAME -/
def tNm (m : xD) : xD := tN2 (xupd m 292 17 0) (nT m)
theorem tN0_N {m : xD} : nN (xupd m 292 17 0) = nN m := by
  unfold nN
  rw [xupd_ne (by omega)]
theorem tN0_5 {m : xD} {j : Nat} : xupd m 292 17 0 305 j = m 305 j := xupd_ne (by omega)
theorem tN0_S {m : xD} {K : Nat} : sSl (xupd m 292 17 0) K = sSl m K := by
  unfold sSl
  simp only [tN0_5]
theorem tNm_at {m : xD} {a k : Nat} : tNm m a k = if a = 304 ∧ k = nN m then 0 else if a = 298 ∧ k = nN m then 0 else if a = 297 ∧ k = nN m then 0 else if a = 296 ∧ k = nN m then 0 else if a = 293 ∧ 8 * nN m ≤ k ∧ k < 8 * nN m + nT m then m 305 (k - 8 * nN m) else if a = 295 ∧ k = nN m then ((1 + sSl m (nT m) : Nat) : Int) else if a = 294 ∧ k = nN m then ((nT m : Nat) : Int) else if a = 292 ∧ k = 0 then ((nN m + 1 : Nat) : Int) else if a = 292 ∧ k = 17 then 0 else m a k := by
  unfold tNm tN2 tN1
  simp only [tN0_N, tN0_5, tN0_S]
  rfl
theorem tNm_o {m : xD} {a k : Nat} (h : a ≠ 304 ∧ a ≠ 298 ∧ a ≠ 297 ∧ a ≠ 296 ∧ a ≠ 295 ∧ a ≠ 294 ∧ a ≠ 293 ∧ ¬ (a = 292 ∧ (k = 0 ∨ k = 17))) : tNm m a k = m a k := by
  rw [tNm_at]
  (repeat' split) <;> first | (exfalso; omega) | rfl
theorem tNm_q {m : xD} {a k : Nat} (h : k ≠ nN m) (h2 : a ≠ 293 ∧ a ≠ 292) : tNm m a k = m a k := by
  rw [tNm_at]
  (repeat' split) <;> first | (exfalso; omega) | rfl
theorem tNm_s {m : xD} {k : Nat} (h : ¬ (8 * nN m ≤ k ∧ k < 8 * nN m + nT m)) : tNm m 293 k = m 293 k := by
  rw [tNm_at]
  (repeat' split) <;> first | (exfalso; omega) | rfl
theorem tNm_t {m : xD} {i : Nat} (h : i < nT m) : tNm m 293 (8 * nN m + i) = m 305 i := by
  rw [tNm_at, if_neg (by omega), if_neg (by omega), if_neg (by omega), if_neg (by omega), if_pos (by omega)]
  exact congrArg (m 305) (by omega)
theorem tNm_0 {m : xD} : tNm m 292 0 = ((nN m + 1 : Nat) : Int) := by
  rw [tNm_at]
  (repeat' split) <;> first | (exfalso; omega) | rfl
theorem tNm_N {m : xD} : nN (tNm m) = nN m + 1 := by
  show (tNm m 292 0).toNat = nN m + 1
  rw [tNm_0]
  omega
theorem tNm_l {m : xD} : tNm m 294 (nN m) = ((nT m : Nat) : Int) := by
  rw [tNm_at]
  (repeat' split) <;> first | (exfalso; omega) | rfl
theorem tNm_p {m : xD} : tNm m 295 (nN m) = ((1 + sSl m (nT m) : Nat) : Int) := by
  rw [tNm_at]
  (repeat' split) <;> first | (exfalso; omega) | rfl
theorem tNm_z {m : xD} {a : Nat} (h : a = 296 ∨ a = 297 ∨ a = 298 ∨ a = 304) : tNm m a (nN m) = 0 := by
  rw [tNm_at]
  (repeat' split) <;> first | rfl | (exfalso; omega)
theorem tNm_kP {m : xD} {n : Nat} (hn : n < nN m) : ∀ i, i ≤ 8 → kP (tNm m) n i = kP m n i
  | 0, _ => rfl
  | i + 1, h => by
    show kP (tNm m) n i * 256 + (if ((i : Nat) : Int) < tNm m 294 n then tNm m 293 (8 * n + i) else 0) = kP m n i * 256 + (if ((i : Nat) : Int) < m 294 n then m 293 (8 * n + i) else 0)
    rw [tNm_kP hn i (by omega), tNm_q (by omega) (by decide), tNm_s (by omega)]
theorem tNm_tP {m : xD} (hX : MX m) : ∀ i, kP (tNm m) (nN m) i = tP m i
  | 0 => rfl
  | i + 1 => by
    have t := iTn hX
    show kP (tNm m) (nN m) i * 256 + (if ((i : Nat) : Int) < tNm m 294 (nN m) then tNm m 293 (8 * nN m + i) else 0) = tP m i * 256 + (if ((i : Nat) : Int) < m 292 17 then m 305 i else 0)
    rw [tNm_tP hX i, tNm_l]
    by_cases c : i < nT m
    · rw [if_pos (by omega), if_pos (by omega), tNm_t c]
    · rw [if_neg (by omega), if_neg (by omega)]
theorem tNm_kK {m : xD} {n : Nat} (hn : n < nN m) : kK (tNm m) n = kK m n := tNm_kP hn 8 (Nat.le_refl 8)
theorem tNm_kN {m : xD} (hX : MX m) : kK (tNm m) (nN m) = tP m 8 := tNm_tP hX 8
/-- the text is a name's: by keys -/
theorem kt_inj {m : xD} (hI : Inv m) (hX : MX m) {n : Nat} (hn : n < nN m) : ∀ k, kP m n k = tP m k → ∀ i, i < k → dg m n i = tD m i
  | 0, _, i, hi => absurd hi (by omega)
  | k + 1, h, i, hi => by
    have h : kP m n k * 256 + dg m n k = tP m k * 256 + tD m k := h
    have a := dg_rng hI hn k
    have b := tD_rng hX k
    by_cases c : i = k
    · rw [c]
      omega
    · exact kt_inj hI hX hn k (by omega) i (by omega)
theorem kt_eq {m : xD} {n : Nat} : ∀ k, (∀ i, i < k → dg m n i = tD m i) → kP m n k = tP m k
  | 0, _ => rfl
  | k + 1, h => by
    show kP m n k * 256 + dg m n k = tP m k * 256 + tD m k
    rw [kt_eq k (fun i hi => h i (by omega)), h k (by omega)]
theorem tD_lt {m : xD} (hX : MX m) {i : Nat} (h : i < nT m) : tD m i = m 305 i := if_pos (by have := iTn hX; omega)
theorem tD_ge {m : xD} (hX : MX m) {i : Nat} (h : nT m ≤ i) : tD m i = 0 := if_neg (by have := iTn hX; omega)
theorem key_txt {m : xD} (hI : Inv m) (hX : MX m) (hF : sFau m = -1) {n : Nat} (hn : n < nN m) : kK m n = tP m 8 ↔ bTxt m n = true := by
  obtain ⟨f1, f2, f3⟩ := sFau_no hF
  have l := iLn hI hn
  rw [bTxt_iff]
  constructor
  · intro h
    have e := kt_inj hI hX hn 8 h
    have ll : nL m n = nT m := by
      by_cases c1 : nL m n < nT m
      · have a := e (nL m n) (by omega)
        rw [dg_ge hI hn (Nat.le_refl _), tD_lt hX c1] at a
        have := f3 _ c1
        omega
      · by_cases c2 : nT m < nL m n
        · have a := e (nT m) (by omega)
          have b := (dg_pos hI hn).mpr c2
          rw [tD_ge hX (Nat.le_refl _)] at a
          omega
        · omega
    refine ⟨ll, fun i hi => ?_⟩
    have a := e i (by omega)
    rw [dg_lt hI hn (by omega), tD_lt hX hi] at a
    exact a
  · rintro ⟨h1, h2⟩
    refine kt_eq 8 (fun i _ => ?_)
    by_cases c : i < nT m
    · rw [dg_lt hI hn (by omega), tD_lt hX c]
      exact h2 i c
    · rw [dg_ge hI hn (by omega), tD_ge hX (by omega)]
theorem sSam_no {m : xD} : ∀ K, sSam m K = -1 → ∀ n, n < K → ¬ bTxt m n = true
  | 0, _, n, hn => absurd hn (by omega)
  | K + 1, h, n, hn => by
    have h : (if bTxt m K = true then ((K : Nat) : Int) else sSam m K) = -1 := h
    by_cases c : bTxt m K = true
    · rw [if_pos c] at h
      omega
    · rw [if_neg c] at h
      by_cases e : n = K
      · rw [e]
        exact c
      · exact sSam_no K h n (by omega)
theorem sSam_at {m : xD} {n : Nat} : ∀ K, n < K → bTxt m n = true → (∀ q, q < K → bTxt m q = true → q = n) → sSam m K = ((n : Nat) : Int)
  | 0, h, _, _ => absurd h (by omega)
  | K + 1, h, hb, hu => by
    show (if bTxt m K = true then ((K : Nat) : Int) else sSam m K) = ((n : Nat) : Int)
    by_cases c : bTxt m K = true
    · rw [if_pos c, hu K (by omega) c]
    · rw [if_neg c]
      by_cases e : n = K
      · subst e
        exact absurd hb c
      · exact sSam_at K (by omega) hb (fun q hq => hu q (by omega))
/-- the model's state behind a new name is a good one -/
theorem Inv.nm {m : xD} (hI : Inv m) (hX : MX m) (hF : sFau m = -1) (hS : sSam m (nN m) = -1) (hN : nN m < 12) : Inv (tNm m) := by
  obtain ⟨f1, f2, f3⟩ := sFau_no hF
  have n0 := (iNn hI).1
  have hw : ∀ n, n < nN m + 1 → wfN (tNm m) n := fun n hn => by
    unfold wfN
    by_cases c : n = nN m
    · subst c
      rw [tNm_l]
      refine ⟨by omega, by omega, fun i hi => ?_⟩
      rw [tNm_t (by omega)]
      have := f3 i (by omega)
      omega
    · have w := iW hI (show n < nN m by omega)
      unfold wfN at w
      rw [tNm_q c (by decide)]
      refine ⟨w.1, w.2.1, fun i hi => ?_⟩
      rw [tNm_s (by omega)]
      exact w.2.2 i hi
  refine ⟨?_, ?_, ?_, ?_, ?_, ?_, ?_, ?_, ?_, ?_, ?_, ?_, ?_⟩
  · rw [tNm_0]
    omega
  · rw [tNm_N]
    exact hw
  · rw [tNm_N]
    intro n hn
    by_cases c : n = nN m
    · subst c
      rw [tNm_z (by decide)]
      decide
    · rw [tNm_q c (by decide)]
      exact iJ hI (by omega)
  · intro d hd
    rw [tNm_o (by omega), tNm_o (by omega), tNm_o (by omega)]
    exact iD hI hd
  · intro d r hd hk hr
    rw [tNm_o (by omega)] at hk
    have hr : r < (tNm m 301 d).toNat := hr
    rw [tNm_o (by omega)] at hr
    have := iRo hI hd hk hr
    rw [tNm_o (by omega), tNm_0]
    omega
  · intro d r q hd hk hr hq e
    rw [tNm_o (by omega)] at hk
    have hr : r < (tNm m 301 d).toNat := hr
    have hq : q < (tNm m 301 d).toNat := hq
    rw [tNm_o (by omega)] at hr hq
    rw [tNm_o (by omega), tNm_o (by omega)] at e
    exact iRd hI hd hk hr hq e
  · intro d e hd he h1 h2
    rw [tNm_o (by omega), tNm_o (by omega)] at h1 h2
    exact iC hI hd he h1 h2
  · intro d hd h1
    rw [tNm_o (by omega), tNm_o (by omega)] at h1
    rw [tNm_o (by omega), tNm_o (by omega)]
    exact iO hI hd h1
  · rw [tNm_o (by omega), tNm_o (by omega), tNm_0]
    have := iP hI
    omega
  · have h := iS hI
    rw [tNm_o (by omega)]
    refine ⟨h.1, h.2.1, fun i hi => ?_⟩
    have := h.2.2 i hi
    rw [tNm_o (by omega), tNm_0]
    omega
  · have h := iL hI
    rw [tNm_o (by omega)]
    refine ⟨h.1, h.2.1, fun i hi => ?_⟩
    have := h.2.2 i hi
    rw [tNm_o (by omega), tNm_o (by omega), tNm_0]
    omega
  · have h := iB hI
    rw [tNm_o (by omega)]
    refine ⟨h.1, h.2.1, fun i hi => ?_⟩
    have := h.2.2 i hi
    rw [tNm_o (by omega), tNm_0]
    omega
  · rw [tNm_N]
    intro a b ha hb e
    have no := fun n hn hh => sSam_no (nN m) hS n hn ((key_txt hI hX hF hn).mp hh)
    by_cases ca : a = nN m
    · by_cases cb : b = nN m
      · omega
      · rw [ca, tNm_kN hX, tNm_kK (by omega)] at e
        exact absurd e.symm (no b (by omega))
    · by_cases cb : b = nN m
      · rw [cb, tNm_kN hX, tNm_kK (by omega)] at e
        exact absurd e (no a (by omega))
      · rw [tNm_kK (by omega), tNm_kK (by omega)] at e
        exact iK hI (by omega) (by omega) e
theorem bCla_or {m : xD} {a b : Nat} : bCla m a b = true ↔ bFol m a b = true ∨ bFol m b a = true := by
  unfold bCla
  rw [Bool.or_eq_true]
theorem bFol_old {m : xD} (hI : Inv m) {a b : Nat} (ha : a < nN m) (hb : b < nN m) : bFol (tNm m) a b = bFol m a b := by
  have la := iLn hI ha
  have lb := iLn hI hb
  have ea : nL (tNm m) a = nL m a := by
    unfold nL
    rw [tNm_q (by omega) (by decide)]
  have eb : nL (tNm m) b = nL m b := by
    unfold nL
    rw [tNm_q (by omega) (by decide)]
  rw [Bool.eq_iff_iff, bFol_iff, bFol_iff]
  unfold sFol
  rw [ea, eb, tNm_q (by omega) (by decide), tNm_q (by omega) (by decide)]
  constructor
  · rintro ⟨h1, h2, h3, h4⟩
    rw [tNm_s (by omega)] at h3
    refine ⟨h1, h2, h3, fun i hi => ?_⟩
    have := h4 i hi
    rw [tNm_s (by omega), tNm_s (by omega)] at this
    exact this
  · rintro ⟨h1, h2, h3, h4⟩
    refine ⟨h1, h2, by rw [tNm_s (by omega)]; exact h3, fun i hi => ?_⟩
    rw [tNm_s (by omega), tNm_s (by omega)]
    exact h4 i hi
theorem bFol_self {m : xD} {a : Nat} : ¬ bFol m a a = true := fun h => by
  have := (bFol_iff.mp h).1
  omega
theorem sKin_old {m : xD} (hI : Inv m) (hN : nN m < 12) {n : Nat} (hn : n < nN m) : sKin (tNm m) n = if bCla (tNm m) n (nN m) = true then sKin m n ||| 2 ^ nN m else sKin m n := by
  apply Nat.eq_of_testBit_eq
  intro q
  have old : q < nN m → (bCla (tNm m) n q = bCla m n q) := fun hq => by
    unfold bCla
    rw [bFol_old hI hn hq, bFol_old hI hq hn]
  rw [Bool.eq_iff_iff, sKin_bit, tNm_N]
  by_cases c : bCla (tNm m) n (nN m) = true
  · rw [if_pos c, Nat.testBit_or, Bool.or_eq_true, sKin_bit, Nat.testBit_two_pow, decide_eq_true_iff]
    constructor
    · rintro ⟨h1, h2⟩
      by_cases e : q = nN m
      · exact Or.inr e.symm
      · rw [old (by omega)] at h2
        exact Or.inl ⟨by omega, h2⟩
    · rintro (⟨h1, h2⟩ | h)
      · exact ⟨by omega, by rw [old h1]; exact h2⟩
      · subst h
        exact ⟨by omega, c⟩
  · rw [if_neg c, sKin_bit]
    constructor
    · rintro ⟨h1, h2⟩
      by_cases e : q = nN m
      · subst e
        exact absurd h2 c
      · rw [old (by omega)] at h2
        exact ⟨by omega, h2⟩
    · rintro ⟨h1, h2⟩
      exact ⟨by omega, by rw [old h1]; exact h2⟩
theorem sKin_new {m : xD} : sKin (tNm m) (nN m) = xbs (fun j => bCla (tNm m) (nN m) j) (nN m) := by
  rw [sKin_eq, tNm_N]
  refine (xbs_out rfl (fun h => ?_)).symm
  rcases bCla_or.mp h with h | h <;> exact bFol_self h
theorem sCom_nm {m : xD} : sCom (tNm m) = sCom m := by
  have e : (fun d => decide (0 < tNm m 300 d ∧ tNm m 302 d = 2)) = (fun d => decide (0 < m 300 d ∧ m 302 d = 2)) := funext fun d => by rw [tNm_o (by omega), tNm_o (by omega)]
  show xix 4 (xfst (fun d => decide (0 < tNm m 300 d ∧ tNm m 302 d = 2)) 4) = xix 4 (xfst (fun d => decide (0 < m 300 d ∧ m 302 d = 2)) 4)
  rw [e]
theorem Rep.newN {t u m : xD} {s : Nat} (h : Rep t s m) (hI : Inv m) (hX : MX m) (hN : nN m < 12) (F : ∀ b j, ¬ (b = 5 + 89 * s ∧ j = 6) → ¬ (18 + 89 * s ≤ b ∧ b < 78 + 89 * s ∧ j = 4 ∧ (b - (18 + 89 * s)) % 5 = 0) → ¬ (18 + 89 * s + 5 * nN m ≤ b ∧ b < 20 + 89 * s + 5 * nN m) → u b j = t b j) (h6 : u (5 + 89 * s) 6 = ((nN m + 1 : Nat) : Int)) (n1 : u (18 + 89 * s + 5 * nN m) 1 = tP m 8) (n2 : u (18 + 89 * s + 5 * nN m) 2 = ((nT m : Nat) : Int)) (n3 : u (18 + 89 * s + 5 * nN m) 3 = ((1 + sSl m (nT m) : Nat) : Int)) (n5 : u (18 + 89 * s + 5 * nN m) 5 = 0) (n6 : u (18 + 89 * s + 5 * nN m) 6 = 0) (n7 : u (18 + 89 * s + 5 * nN m) 7 = 0) (n8 : u (18 + 89 * s + 5 * nN m + 1) 3 = 0) (k0 : ∀ i, i < nN m → u (18 + 89 * s + 5 * i) 4 = ((sKin (tNm m) i : Nat) : Int)) (k1 : u (18 + 89 * s + 5 * nN m) 4 = ((sKin (tNm m) (nN m) : Nat) : Int)) : Rep u s (tNm m) := by
  obtain ⟨h1, h2, h3, h4, h5, g6, g7, g8⟩ := h
  have cr := sRec_cg (m := m) (w := tNm m) sCom_nm (tNm_o (by omega))
  refine ⟨?_, ?_, ?_, ?_, ?_, ?_, ?_, ?_⟩
  · unfold R1
    rw [cr.1, cr.2, tNm_0, tNm_o (by omega), tNm_o (by omega)]
    exact ⟨h6, (F _ _ (by omega) (by omega) (by omega)).trans h1.2.1, (F _ _ (by omega) (by omega) (by omega)).trans h1.2.2.1, (F _ _ (by omega) (by omega) (by omega)).trans h1.2.2.2.1, (F _ _ (by omega) (by omega) (by omega)).trans h1.2.2.2.2⟩
  · intro e
    rw [tNm_o (by omega)] at e
    refine (F _ _ (by omega) (by omega) (by omega)).trans ((h2 e).trans ?_)
    rw [tNm_o (by omega)]
    by_cases c : m 292 15 = -1
    · rw [if_pos c, if_pos c]
    · rw [if_neg c, if_neg c, tNm_kK (by have := iP hI; have := (iNn hI).1; omega)]
  · unfold R3
    rw [tNm_N]
    intro n hn
    by_cases c : n = nN m
    · subst c
      rw [tNm_kN hX, tNm_l, tNm_p, tNm_z (by decide), tNm_z (by decide), tNm_z (by decide)]
      exact ⟨n1, n2, n3, k1, n5, n6, n7⟩
    · have p := h3 n (by omega)
      rw [tNm_kK (by omega), tNm_q c (by decide), tNm_q c (by decide), tNm_q c (by decide), tNm_q c (by decide), tNm_q c (by decide)]
      exact ⟨(F _ _ (by omega) (by omega) (by omega)).trans p.1, (F _ _ (by omega) (by omega) (by omega)).trans p.2.1, (F _ _ (by omega) (by omega) (by omega)).trans p.2.2.1, k0 n (by omega), (F _ _ (by omega) (by omega) (by omega)).trans p.2.2.2.2.1, (F _ _ (by omega) (by omega) (by omega)).trans p.2.2.2.2.2.1, (F _ _ (by omega) (by omega) (by omega)).trans p.2.2.2.2.2.2⟩
  · unfold R4
    rw [tNm_N]
    intro n hn
    by_cases c : n = nN m
    · subst c
      rw [tNm_z (by decide)]
      exact ⟨n8, fun k hk => absurd hk (by omega)⟩
    · have p := h4 n (by omega)
      rw [tNm_q c (by decide)]
      refine ⟨(F _ _ (by omega) (by omega) (by omega)).trans p.1, fun k hk => ?_⟩
      have q := p.2 k hk
      rw [tNm_o (by omega), tNm_o (by omega), tNm_o (by omega)]
      exact ⟨(F _ _ (by omega) (by omega) (by omega)).trans q.1, (F _ _ (by omega) (by omega) (by omega)).trans q.2.1, (F _ _ (by omega) (by omega) (by omega)).trans q.2.2⟩
  · intro d hd
    have p := h5 d hd
    refine ⟨(F _ _ (by omega) (by omega) (by omega)).trans (p.1.trans ?_), fun hk => ?_⟩
    · unfold sPha
      rw [tNm_o (by omega), tNm_o (by omega)]
    · rw [tNm_o (by omega)] at hk
      have q := p.2 hk
      rw [tNm_o (by omega), tNm_o (by omega)]
      refine ⟨(F _ _ (by omega) (by omega) (by omega)).trans q.1, (F _ _ (by omega) (by omega) (by omega)).trans q.2.1, fun r hr => ?_⟩
      have z := q.2.2 r hr
      rw [tNm_o (by omega), tNm_o (by omega), tNm_o (by omega)]
      exact ⟨(F _ _ (by omega) (by omega) (by omega)).trans z.1, (F _ _ (by omega) (by omega) (by omega)).trans z.2.1, (F _ _ (by omega) (by omega) (by omega)).trans z.2.2⟩
  · unfold R6
    rw [tNm_o (by omega)]
    refine ⟨(F _ _ (by omega) (by omega) (by omega)).trans g6.1, (F _ _ (by omega) (by omega) (by omega)).trans g6.2.1, fun i hi => ?_⟩
    have z := g6.2.2 i hi
    rw [tNm_o (by omega), tNm_o (by omega)]
    exact ⟨(F _ _ (by omega) (by omega) (by omega)).trans z.1, (F _ _ (by omega) (by omega) (by omega)).trans z.2⟩
  · unfold R7
    rw [tNm_o (by omega)]
    refine ⟨(F _ _ (by omega) (by omega) (by omega)).trans g7.1, (F _ _ (by omega) (by omega) (by omega)).trans g7.2.1, fun i hi => ?_⟩
    have z := g7.2.2 i hi
    rw [tNm_o (by omega), tNm_o (by omega)]
    exact ⟨(F _ _ (by omega) (by omega) (by omega)).trans z.1, fun e => (F _ _ (by omega) (by omega) (by omega)).trans (z.2 e)⟩
  · unfold R8
    rw [tNm_o (by omega)]
    refine ⟨(F _ _ (by omega) (by omega) (by omega)).trans g8.1, (F _ _ (by omega) (by omega) (by omega)).trans g8.2.1, fun i hi => ?_⟩
    have z := g8.2.2 i hi
    rw [tNm_o (by omega), tNm_o (by omega)]
    exact ⟨(F _ _ (by omega) (by omega) (by omega)).trans z.1, (F _ _ (by omega) (by omega) (by omega)).trans z.2⟩
