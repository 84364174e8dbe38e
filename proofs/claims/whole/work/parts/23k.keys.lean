/-! KEYS: a name's key is its text as digits -/
def dg (m : xD) (n i : Nat) : Int := if ((i : Nat) : Int) < m 294 n then m 293 (8 * n + i) else 0
theorem kP_succ {m : xD} {n i : Nat} : kP m n (i + 1) = kP m n i * 256 + dg m n i := rfl
theorem dg_lt {m : xD} (hI : Inv m) {n i : Nat} (hn : n < nN m) (h : i < nL m n) : dg m n i = m 293 (8 * n + i) := if_pos (by have := iLn hI hn; omega)
theorem dg_ge {m : xD} (hI : Inv m) {n i : Nat} (hn : n < nN m) (h : nL m n ≤ i) : dg m n i = 0 := if_neg (by have := iLn hI hn; omega)
theorem dg_rng {m : xD} (hI : Inv m) {n : Nat} (hn : n < nN m) (i : Nat) : 0 ≤ dg m n i ∧ dg m n i ≤ 127 := by
  by_cases h : i < nL m n
  · rw [dg_lt hI hn h]
    have := iSg hI hn h
    omega
  · rw [dg_ge hI hn (by omega)]
    omega
theorem dg_pos {m : xD} (hI : Inv m) {n i : Nat} (hn : n < nN m) : 0 < dg m n i ↔ i < nL m n := by
  by_cases h : i < nL m n
  · rw [dg_lt hI hn h]
    have := iSg hI hn h
    omega
  · rw [dg_ge hI hn (by omega)]
    omega
theorem kP_0le {m : xD} (hI : Inv m) {n : Nat} (hn : n < nN m) : ∀ i, 0 ≤ kP m n i
  | 0 => Int.le_refl 0
  | i + 1 => by
    have := kP_0le hI hn i
    have := dg_rng hI hn i
    rw [kP_succ]
    omega
theorem kP_eq {m : xD} {a b : Nat} : ∀ k, (∀ i, i < k → dg m a i = dg m b i) → kP m a k = kP m b k
  | 0, _ => rfl
  | k + 1, h => by
    rw [kP_succ, kP_succ, kP_eq k (fun i hi => h i (by omega)), h k (by omega)]
theorem kP_inj {m : xD} (hI : Inv m) {a b : Nat} (ha : a < nN m) (hb : b < nN m) : ∀ k, kP m a k = kP m b k → ∀ i, i < k → dg m a i = dg m b i
  | 0, _, i, hi => absurd hi (Nat.not_lt_zero i)
  | k + 1, h, i, hi => by
    rw [kP_succ, kP_succ] at h
    have r1 := dg_rng hI ha k
    have r2 := dg_rng hI hb k
    have e : kP m a k = kP m b k ∧ dg m a k = dg m b k := by omega
    by_cases c : i = k
    · rw [c]; exact e.2
    · exact kP_inj hI ha hb k e.1 i (by omega)
theorem kP_lt {m : xD} (hI : Inv m) {a b : Nat} (ha : a < nN m) (hb : b < nN m) {j : Nat} (h : ∀ i, i < j → dg m a i = dg m b i) (hl : dg m a j < dg m b j) : ∀ i, j < i → kP m a i < kP m b i
  | 0, hi => absurd hi (Nat.not_lt_zero j)
  | i + 1, hi => by
    rw [kP_succ, kP_succ]
    have r1 := dg_rng hI ha i
    have r2 := dg_rng hI hb i
    by_cases c : j = i
    · subst c
      rw [kP_eq j h]
      omega
    · have := kP_lt hI ha hb h hl i (by omega)
      omega
theorem sDif_ok {m : xD} {a b : Nat} : sDif m a b ≤ 8 ∧ (∀ i, i < sDif m a b → i < nL m a ∧ i < nL m b ∧ m 293 (8 * a + i) = m 293 (8 * b + i)) ∧ (sDif m a b < 8 → nL m a ≤ sDif m a b ∨ nL m b ≤ sDif m a b ∨ ¬ m 293 (8 * a + sDif m a b) = m 293 (8 * b + sDif m a b)) := by
  refine ⟨xfst_le _ _, fun i hi => ?_, fun h => ?_⟩
  · have := of_decide_eq_false (xfst_lt (fun i => decide (nL m a ≤ i ∨ nL m b ≤ i ∨ ¬ m 293 (8 * a + i) = m 293 (8 * b + i))) 8 i hi)
    omega
  · exact of_decide_eq_true (xfst_at (fun i => decide (nL m a ≤ i ∨ nL m b ≤ i ∨ ¬ m 293 (8 * a + i) = m 293 (8 * b + i))) 8 h)
/-- the order of names is the order of keys -/
theorem bBef_key {m : xD} (hI : Inv m) {a b : Nat} (ha : a < nN m) (hb : b < nN m) : bBef m a b = true ↔ kK m a < kK m b := by
  obtain ⟨h8, hb1, hb2⟩ := sDif_ok (m := m) (a := a) (b := b)
  have la := iLn hI ha
  have lb := iLn hI hb
  unfold bBef
  rw [decide_eq_true_iff]
  generalize sDif m a b = k at h8 hb1 hb2
  have hd : ∀ i, i < k → dg m a i = dg m b i := fun i hi => by
    obtain ⟨h1, h2, h3⟩ := hb1 i hi
    rw [dg_lt hI ha h1, dg_lt hI hb h2, h3]
  have ka : k ≤ nL m a ∧ k ≤ nL m b := by
    by_cases c : k = 0
    · omega
    · have := hb1 (k - 1) (by omega)
      omega
  by_cases c1 : nL m a = k
  · by_cases c2 : nL m b = k
    · have e : kK m a = kK m b := kP_eq 8 (fun i _ => by
        by_cases c : i < k
        · exact hd i c
        · rw [dg_ge hI ha (by omega), dg_ge hI hb (by omega)])
      rw [e]
      constructor
      · intro h; omega
      · intro h; exact absurd h (Int.lt_irrefl _)
    · have : kK m a < kK m b := kP_lt hI ha hb hd (by
        rw [dg_ge hI ha (by omega)]
        exact (dg_pos hI hb).mpr (by omega)) 8 (by omega)
      exact ⟨fun _ => this, fun _ => by omega⟩
  · by_cases c2 : nL m b = k
    · have : kK m b < kK m a := kP_lt hI hb ha (fun i hi => (hd i hi).symm) (by
        rw [dg_ge hI hb (by omega)]
        exact (dg_pos hI ha).mpr (by omega)) 8 (by omega)
      exact ⟨fun h => by omega, fun h => by omega⟩
    · have hk : k < 8 := by omega
      have ne := hb2 hk
      have e1 := dg_lt hI ha (i := k) (by omega)
      have e2 := dg_lt hI hb (i := k) (by omega)
      by_cases c3 : m 293 (8 * a + k) < m 293 (8 * b + k)
      · have : kK m a < kK m b := kP_lt hI ha hb hd (by rw [e1, e2]; exact c3) 8 (by omega)
        exact ⟨fun _ => this, fun _ => by omega⟩
      · have : kK m b < kK m a := kP_lt hI hb ha (fun i hi => (hd i hi).symm) (by rw [e1, e2]; omega) 8 (by omega)
        exact ⟨fun h => by omega, fun h => by omega⟩
theorem kK_pos {m : xD} (hI : Inv m) {n : Nat} (hn : n < nN m) : 0 < kK m n := by
  have l := iLn hI hn
  have h0 : 0 < dg m n 0 := (dg_pos hI hn).mpr (by omega)
  have : ∀ i, 0 < kP m n (i + 1) := by
    intro i
    induction i with
    | zero => rw [kP_succ]; show 0 < 0 * 256 + dg m n 0; omega
    | succ i ih =>
      have := dg_rng hI hn (i + 1)
      rw [kP_succ]
      omega
  exact this 7
theorem kP_bd {m : xD} (hI : Inv m) {n : Nat} (hn : n < nN m) : ∀ i, kP m n (i + 1) < 128 * (256 ^ i : Nat)
  | 0 => by
    have := dg_rng hI hn 0
    show 0 * 256 + dg m n 0 < 128 * ((256 ^ 0 : Nat) : Int)
    omega
  | i + 1 => by
    have := kP_bd hI hn i
    have := dg_rng hI hn (i + 1)
    rw [kP_succ, Nat.pow_succ]
    omega
theorem kK_bd {m : xD} (hI : Inv m) {n : Nat} (hn : n < nN m) : kK m n < 9223372036854775808 := by
  have := kP_bd hI hn 7
  have e : (128 : Int) * ((256 ^ 7 : Nat) : Int) = 9223372036854775808 := by decide +kernel
  rw [e] at this
  exact this
theorem kP_div {m : xD} (hI : Inv m) {n : Nat} (hn : n < nN m) (i : Nat) : ∀ r, kP m n (i + r) / ((256 ^ r : Nat) : Int) = kP m n i
  | 0 => by show kP m n i / 1 = _; exact Int.ediv_one _
  | r + 1 => by
    have h := kP_div hI hn i r
    have := dg_rng hI hn (i + r)
    have e : kP m n (i + (r + 1)) / 256 = kP m n (i + r) := by
      show kP m n (i + r + 1) / 256 = _
      rw [kP_succ]
      omega
    rw [Nat.pow_succ, Nat.mul_comm, Int.natCast_mul, ← Int.ediv_ediv_of_nonneg (by decide), show ((256 : Nat) : Int) = 256 from rfl, e, h]
/-- a folder, by keys -/
theorem bFol_key {m : xD} (hI : Inv m) {a b : Nat} (ha : a < nN m) (hb : b < nN m) : bFol m a b = true ↔ m 295 a < m 295 b ∧ nL m a < 8 ∧ kP m b (nL m a + 1) = kP m a (nL m a) * 256 + 47 := by
  have la := iLn hI ha
  have lb := iLn hI hb
  rw [bFol_iff, kP_succ]
  have r := dg_rng hI hb (nL m a)
  constructor
  · rintro ⟨h1, h2, h3, h4⟩
    refine ⟨h1, by omega, ?_⟩
    rw [dg_lt hI hb h2, h3, kP_eq (nL m a) (fun i hi => by rw [dg_lt hI ha hi, dg_lt hI hb (by omega), h4 i hi])]
  · rintro ⟨h1, h2, h3⟩
    have e : kP m b (nL m a) = kP m a (nL m a) ∧ dg m b (nL m a) = 47 := by omega
    have lt : nL m a < nL m b := (dg_pos hI hb).mp (by omega)
    refine ⟨h1, lt, by rw [← dg_lt hI hb lt, e.2], fun i hi => ?_⟩
    have := kP_inj hI hb ha (nL m a) e.1 i hi
    rw [dg_lt hI ha hi, dg_lt hI hb (by omega)] at this
    exact this.symm
/-! long shifts -/
theorem i64_rt {z : Int} (h1 : -9223372036854775808 ≤ z) (h2 : z < 9223372036854775808) : (Int64.ofInt z).toInt = z := by
  rw [Int64.toInt_ofInt]
  have e : ((Int64.size : Nat) : Int) = 18446744073709551616 := rfl
  exact Int.bmod_eq_of_le (by omega) (by omega)
theorem xlushr_n {z n : Nat} (h : z < 9223372036854775808) (hn : n < 64) : xlushr ((z : Nat) : Int) ((n : Nat) : Int) = ((z / 2 ^ n : Nat) : Int) := by
  have e1 : ∀ n : Nat, n < 64 → ((Int32.ofInt ((n : Nat) : Int)).toInt64.toUInt64 &&& Int64.toUInt64 63).toNat % 64 = n := by decide +kernel
  have hz : z / 2 ^ n ≤ z := Nat.div_le_self _ _
  have a1 : (Int64.ofInt ((z : Nat) : Int)).toUInt64.toNat = z := by
    show (BitVec.ofInt 64 ((z : Nat) : Int)).toNat = z
    rw [BitVec.ofInt_natCast, BitVec.toNat_ofNat]
    exact Nat.mod_eq_of_lt (by omega)
  have a2 : ((Int64.ofInt ((z : Nat) : Int)).toUInt64 >>> ((Int32.ofInt ((n : Nat) : Int)).toInt64.toUInt64 &&& Int64.toUInt64 63)).toNat = z / 2 ^ n := by
    rw [UInt64.toNat_shiftRight, e1 n hn, a1, Nat.shiftRight_eq_div_pow]
  unfold xlushr
  show (BitVec.toInt ((Int64.ofInt ((z : Nat) : Int)).toUInt64 >>> ((Int32.ofInt ((n : Nat) : Int)).toInt64.toUInt64 &&& Int64.toUInt64 63)).toBitVec) = _
  rw [BitVec.toInt_eq_toNat_of_lt (by show 2 * UInt64.toNat _ < _; rw [a2]; omega)]
  show ((UInt64.toNat _ : Nat) : Int) = _
  rw [a2]
theorem xlor_n {n m : Nat} (h1 : n < 2 ^ 63) (h2 : m < 2 ^ 63) : xlor ((n : Nat) : Int) ((m : Nat) : Int) = ((n ||| m : Nat) : Int) := by
  have hb := Nat.or_lt_two_pow h1 h2
  unfold xlor
  have e : (Int64.ofInt ((n : Nat) : Int) ||| Int64.ofInt ((m : Nat) : Int)) = Int64.ofInt ((n ||| m : Nat) : Int) := by
    apply Int64.toBitVec.inj
    rw [Int64.toBitVec_or]
    show BitVec.ofInt 64 ((n : Nat) : Int) ||| BitVec.ofInt 64 ((m : Nat) : Int) = BitVec.ofInt 64 ((n ||| m : Nat) : Int)
    rw [BitVec.ofInt_natCast, BitVec.ofInt_natCast, BitVec.ofInt_natCast]
    apply BitVec.eq_of_toNat_eq
    rw [BitVec.toNat_or, BitVec.toNat_ofNat, BitVec.toNat_ofNat, BitVec.toNat_ofNat, Nat.mod_eq_of_lt (by omega), Nat.mod_eq_of_lt (by omega), Nat.mod_eq_of_lt (by omega)]
  rw [e]
  exact i64_rt (by omega) (by omega)
theorem or_dig {z b : Nat} (hb : b < 256) : z * 256 ||| b = z * 256 + b := by
  have := Nat.shiftLeft_add_eq_or_of_lt (i := 8) (b := b) hb z
  rw [Nat.shiftLeft_eq] at this
  exact this.symm
theorem xlshl_8 {z : Nat} (h : z < 2 ^ 55) : xlshl ((z : Nat) : Int) 8 = ((z * 256 : Nat) : Int) := by
  unfold xlshl
  have e1 : ((Int32.ofInt 8).toInt64 &&& 63 : Int64) = 8 := by decide +kernel
  rw [e1]
  have e : Int64.ofInt ((z : Nat) : Int) <<< (8 : Int64) = Int64.ofInt ((z * 256 : Nat) : Int) := by
    apply Int64.toBitVec.inj
    rw [Int64.toBitVec_shiftLeft]
    show BitVec.ofInt 64 ((z : Nat) : Int) <<< ((8 : Int64).toBitVec.smod 64) = BitVec.ofInt 64 ((z * 256 : Nat) : Int)
    rw [BitVec.ofInt_natCast, BitVec.ofInt_natCast, show ((8 : Int64).toBitVec.smod 64) = 8#64 from by decide +kernel]
    apply BitVec.eq_of_toNat_eq
    rw [BitVec.shiftLeft_eq', BitVec.toNat_shiftLeft, BitVec.toNat_ofNat, BitVec.toNat_ofNat, BitVec.toNat_ofNat, Nat.shiftLeft_eq]
    have e8 : (8 : Nat) % 2 ^ 64 = 8 := by decide +kernel
    rw [Nat.mod_eq_of_lt (show z < 2 ^ 64 by omega), e8]
  rw [e]
  exact i64_rt (by omega) (by omega)
theorem key_up {m : xD} (hI : Inv m) {n i : Nat} (hn : n < nN m) (h1 : 1 ≤ i) (hi : i ≤ 8) {y : Int} (hy : y = ((8 * (8 - i) : Nat) : Int)) : xlushr (kK m n) y = kP m n i := by
  have h := kP_div hI hn i (8 - i)
  rw [show i + (8 - i) = 8 by omega] at h
  have p : 0 ≤ kK m n := kP_0le hI hn 8
  have b := kK_bd hI hn
  have e : kK m n = (((kK m n).toNat : Nat) : Int) := by omega
  rw [hy, ← h, show kP m n 8 = kK m n from rfl, e, xlushr_n (by omega) (by omega), Nat.pow_mul]
  rfl
theorem key_sl {m : xD} (hI : Inv m) {n i : Nat} (hn : n < nN m) (hi : i ≤ 7) : xlor (kP m n i * 256) 47 = kP m n i * 256 + 47 := by
  have p := kP_0le hI hn i
  have b := kP_bd hI hn i
  have r := dg_rng hI hn i
  rw [kP_succ] at b
  have q : (256 ^ i : Nat) ≤ 256 ^ 7 := Nat.pow_le_pow_right (by decide) hi
  have q2 : (256 ^ 7 : Nat) = 72057594037927936 := by decide +kernel
  rw [q2] at q
  generalize (256 ^ i : Nat) = w at b q
  have e : kP m n i * 256 = (((kP m n i).toNat * 256 : Nat) : Int) := by omega
  rw [e, show (47 : Int) = ((47 : Nat) : Int) from rfl, xlor_n (by omega) (by decide), or_dig (by decide)]
  rfl
