/-! WHAT IS WRONG: by sets, and by rows -/
theorem sKin_eq {m : xD} {n : Nat} : sKin m n = xbs (fun j => bCla m n j) (nN m) := by
  unfold sKin xbits xbs
  generalize nN m = K
  induction K with
  | zero => rfl
  | succ K ih =>
    show xsum _ K + _ = xors _ K ||| _
    rw [ih]
    have hb := xors_lt (f := fun i => if bCla m n i = true then 2 ^ i else 0) (n := K) K (fun i hi => by
      show (if bCla m n i = true then 2 ^ i else 0) < 2 ^ K
      split
      · exact Nat.pow_lt_pow_right (by decide) hi
      · exact Nat.two_pow_pos K)
    show _ + (if bCla m n K = true then 2 ^ K else 0) = _ ||| (if bCla m n K = true then 2 ^ K else 0)
    split
    · have := Nat.shiftLeft_add_eq_or_of_lt (i := K) hb 1
      rw [Nat.shiftLeft_eq, Nat.one_mul] at this
      rw [Nat.add_comm, this, Nat.or_comm]
    · rw [Nat.or_zero]
      rfl
theorem sKin_bit {m : xD} {n q : Nat} : (sKin m n).testBit q = true ↔ q < nN m ∧ bCla m n q = true := by
  rw [sKin_eq, xbs_bit]
theorem sRow_in {m : xD} (hI : Inv m) {d q : Nat} (hd : d < 4) (hk : 0 < m 300 d) : ¬ sRow m d ((q : Nat) : Int) = -1 ↔ ∃ i, i < nR m d ∧ m 303 (12 * d + i) = ((q : Nat) : Int) := by
  constructor
  · intro h
    have := xix_at (P := fun r => m 303 (12 * d + r) = ((q : Nat) : Int)) (K := nR m d) h
    exact ⟨_, this.2.1, this.1⟩
  · rintro ⟨i, hi, h⟩ e
    exact xix_no (P := fun r => m 303 (12 * d + r) = ((q : Nat) : Int)) (K := nR m d) e i hi h
theorem nRw_in {m : xD} (hI : Inv m) {d q : Nat} (hd : d < 4) (hk : 0 < m 300 d) : (nRw m d 0).testBit q = true ↔ ¬ sRow m d ((q : Nat) : Int) = -1 := by
  rw [nRw_bit, sRow_in hI hd hk]
  constructor
  · rintro ⟨i, hi, -, h⟩
    have := iRo hI hd hk hi
    exact ⟨i, hi, by omega⟩
  · rintro ⟨i, hi, h⟩
    exact ⟨i, hi, .inl rfl, by rw [h]; rfl⟩
theorem nRw_co {m : xD} (hI : Inv m) {d q : Nat} (hd : d < 4) (hk : 0 < m 300 d) : (nRw m d 1).testBit q = true ↔ (¬ sRow m d ((q : Nat) : Int) = -1 ∧ ¬ m 303 (12 * d + 8 + (sRow m d ((q : Nat) : Int)).toNat) = 0) := by
  rw [nRw_bit]
  constructor
  · rintro ⟨i, hi, h1, h⟩
    have a := iRo hI hd hk hi
    have h2 : m 303 (12 * d + i) = ((q : Nat) : Int) := by omega
    have e := sRow_is hI hd hk hi h2
    refine ⟨by omega, ?_⟩
    rw [e]
    rcases h1 with h1 | h1
    · cases h1
    · exact h1
  · rintro ⟨h1, h2⟩
    have := xix_at (P := fun r => m 303 (12 * d + r) = ((q : Nat) : Int)) (K := nR m d) h1
    exact ⟨_, this.2.1, .inr h2, by rw [show m 303 (12 * d + (xix (nR m d) (xfst (fun r => decide (m 303 (12 * d + r) = ((q : Nat) : Int))) (nR m d))).toNat) = ((q : Nat) : Int) from this.1]; rfl⟩
theorem nThere_bit {m : xD} (hI : Inv m) {d q z2 : Nat} {f : Nat → Int} (hd : d < 4) (hk : 0 < m 300 d) (hq : q < nN m) : (nThere m d f z2).testBit q = true ↔ ((sRow m d ((q : Nat) : Int) = -1 ∧ (¬ f q = 0 ∨ z2.testBit q = true)) ∨ (¬ sRow m d ((q : Nat) : Int) = -1 ∧ ¬ m 303 (12 * d + 8 + (sRow m d ((q : Nat) : Int)).toNat) = 0)) := by
  have hN := iNn hI
  unfold nThere
  rw [Nat.testBit_or, Bool.or_eq_true, xdf_bit (by omega), Nat.testBit_or, Bool.or_eq_true, xbs_bit, nRw_in hI hd hk, nRw_co hI hd hk, decide_eq_true_iff]
  constructor
  · rintro (⟨h1, h2⟩ | h)
    · refine .inl ⟨Decidable.not_not.mp h2, ?_⟩
      rcases h1 with h1 | h1
      · exact .inr h1
      · exact .inl h1.2
    · exact .inr h
  · rintro (⟨h1, h2⟩ | h)
    · refine .inl ⟨?_, fun e => e h1⟩
      rcases h2 with h2 | h2
      · exact .inr ⟨hq, h2⟩
      · exact .inl h2
    · exact .inr h
/-- the clash of a row, by sets and by names -/
theorem kin_there {m : xD} (hI : Inv m) {d n z2 : Nat} {f : Nat → Int} (hd : d < 4) (hk : 0 < m 300 d) : ((sKin m n &&& nThere m d f z2 : Nat) : Int) = 0 ↔ ∀ q, q < nN m → ¬ (bCla m n q = true ∧ ((sRow m d ((q : Nat) : Int) = -1 ∧ (¬ f q = 0 ∨ z2.testBit q = true)) ∨ (¬ sRow m d ((q : Nat) : Int) = -1 ∧ ¬ m 303 (12 * d + 8 + (sRow m d ((q : Nat) : Int)).toNat) = 0))) := by
  have hN := iNn hI
  constructor
  · intro h q hq ⟨h1, h2⟩
    have e : sKin m n &&& nThere m d f z2 = 0 := by omega
    have : (sKin m n &&& nThere m d f z2).testBit q = true := by
      rw [Nat.testBit_and, sKin_bit.mpr ⟨hq, h1⟩, (nThere_bit hI hd hk hq).mpr h2]
      rfl
    rw [e, Nat.zero_testBit] at this
    cases this
  · intro h
    have : sKin m n &&& nThere m d f z2 = 0 := by
      apply Nat.eq_of_testBit_eq
      intro q
      rw [Nat.zero_testBit, Nat.testBit_and]
      cases e : (sKin m n).testBit q
      · rfl
      · obtain ⟨hq, hc⟩ := sKin_bit.mp e
        cases e2 : (nThere m d f z2).testBit q
        · rfl
        · exact absurd ⟨hc, (nThere_bit hI hd hk hq).mp e2⟩ (h q hq)
    rw [this]
    rfl
/-- a deal can go: by what is wrong of it -/
theorem bGo_wB {m : xD} (hI : Inv m) {d : Nat} {f : Nat → Int} (hd : d < 4) (hk : 0 < m 300 d) : wF (wB m d f 0 (nThere m d f 0)) (nR m d) = 0 ↔ bGo m d f = true := by
  have hrow : ∀ r, r < nR m d → (0 < wB m d f 0 (nThere m d f 0) r ↔ bNo m d f r = true) := by
    intro r hr
    unfold wB
    rw [Nat.zero_testBit, if_neg (by decide)]
    by_cases c1 : sAsk m d r (f (m 303 (12 * d + r)).toNat) = 0
    · rw [if_pos c1]
      exact ⟨fun _ => bNo_a c1, fun _ => by decide⟩
    · rw [if_neg c1]
      by_cases c2 : m 303 (12 * d + 8 + r) = 0
      · rw [if_pos c2]
        constructor
        · intro h; exact absurd h (by decide)
        · intro h
          exact absurd h (bNo_n c1 (fun q hq hb => (bBd_iff.mp hb).1 c2))
      · rw [if_neg c2]
        by_cases c3 : ((sKin m (m 303 (12 * d + r)).toNat &&& nThere m d f 0 : Nat) : Int) = 0
        · rw [if_pos c3]
          constructor
          · intro h; exact absurd h (by decide)
          · intro h
            refine absurd h (bNo_n c1 (fun q hq hb => ?_))
            have b := bBd_iff.mp hb
            refine (kin_there hI hd hk).mp c3 q hq ⟨b.2.1, ?_⟩
            rcases b.2.2 with b3 | b3
            · exact .inl ⟨b3.1, .inl b3.2⟩
            · exact .inr b3
        · rw [if_neg c3]
          refine ⟨fun _ => ?_, fun _ => by decide⟩
          apply Classical.byContradiction
          intro hn
          refine c3 ((kin_there hI hd hk).mpr (fun q hq hc => hn (bNo_b hq (bBd_iff.mpr ⟨c2, hc.1, ?_⟩))))
          rcases hc.2 with b3 | b3
          · refine .inl ⟨b3.1, ?_⟩
            rcases b3.2 with b4 | b4
            · exact b4
            · rw [Nat.zero_testBit] at b4
              cases b4
          · exact .inr b3
  constructor
  · intro h
    refine bGo_y (fun r hr hb => ?_)
    have hw := (hrow r hr).mpr hb
    have e : xexb (fun r => decide (0 < wB m d f 0 (nThere m d f 0) r)) (nR m d) = true := xexb_iff.mpr ⟨r, hr, decide_eq_true hw⟩
    have hl : xfst (fun r => decide (0 < wB m d f 0 (nThere m d f 0) r)) (nR m d) < nR m d := Nat.blt_eq.mp e
    have a1 := of_decide_eq_true (xfst_at (fun r => decide (0 < wB m d f 0 (nThere m d f 0) r)) (nR m d) hl)
    unfold wF at h
    rw [if_pos hl] at h
    omega
  · intro h
    refine wF_no (fun r hr hw => ?_)
    exact bGo_n hr ((hrow r hr).mp hw) h
/-- other deals' locks -/
theorem nOth_lock {m : xD} (hI : Inv m) {x : Int} {q : Nat} : (nOth m x 0).testBit q = true ↔ ¬ sLock m ((q : Nat) : Int) x = -5 := by
  rw [nOth_bit]
  have key : (∃ d, d < 4 ∧ (¬ ((d : Nat) : Int) = x ∧ 0 < m 300 d ∧ ¬ m 302 d = 0 ∧ ¬ sRow m d ((q : Nat) : Int) = -1)) ↔ ¬ sLock m ((q : Nat) : Int) x = -5 := by
    constructor
    · rintro ⟨d, hd, h⟩ e
      have : xexb (fun d => decide (¬ ((d : Nat) : Int) = x ∧ 0 < m 300 d ∧ ¬ m 302 d = 0 ∧ ¬ sRow m d ((q : Nat) : Int) = -1)) 4 = true := xexb_iff.mpr ⟨d, hd, decide_eq_true h⟩
      have hl := Nat.blt_eq.mp this
      unfold sLock xiy at e
      rw [if_pos hl] at e
      omega
    · intro h
      by_cases c : xexb (fun d => decide (¬ ((d : Nat) : Int) = x ∧ 0 < m 300 d ∧ ¬ m 302 d = 0 ∧ ¬ sRow m d ((q : Nat) : Int) = -1)) 4 = true
      · obtain ⟨d, hd, hp⟩ := xexb_iff.mp c
        exact ⟨d, hd, of_decide_eq_true hp⟩
      · refine absurd ?_ h
        have hl : ¬ xfst (fun d => decide (¬ ((d : Nat) : Int) = x ∧ 0 < m 300 d ∧ ¬ m 302 d = 0 ∧ ¬ sRow m d ((q : Nat) : Int) = -1)) 4 < 4 := fun hh => c (Nat.blt_eq.mpr hh)
        exact if_neg hl
  rw [← key]
  constructor
  · rintro ⟨d, hd, h1, i, hi, -, h2⟩
    have := iRo hI hd h1.2.1 hi
    exact ⟨d, hd, h1.1, h1.2.1, h1.2.2, (sRow_in hI hd h1.2.1).mpr ⟨i, hi, by omega⟩⟩
  · rintro ⟨d, hd, h1, h2, h3, h4⟩
    obtain ⟨i, hi, h5⟩ := (sRow_in hI hd h2).mp h4
    exact ⟨d, hd, ⟨h1, h2, h3⟩, i, hi, .inl rfl, by rw [h5]; rfl⟩
theorem nOth_com {m : xD} (hI : Inv m) {x : Int} {q : Nat} : (nOth m x 1).testBit q = true ↔ bCom m x ((q : Nat) : Int) = true := by
  rw [nOth_bit]
  unfold bCom
  rw [xexb_iff]
  constructor
  · rintro ⟨d, hd, h1, h⟩
    have hc := (nRw_co hI hd h1.2.1 (q := q)).mp (nRw_bit.mpr h)
    exact ⟨d, hd, decide_eq_true ⟨h1.1, by omega, h1.2.2, hc.1, hc.2⟩⟩
  · rintro ⟨d, hd, h⟩
    have h := of_decide_eq_true h
    have := iD hI hd
    have hk : 0 < m 300 d := by omega
    exact ⟨d, hd, ⟨h.1, hk, h.2.2.1⟩, nRw_bit.mp ((nRw_co hI hd hk).mpr ⟨h.2.2.2.1, h.2.2.2.2⟩)⟩
theorem sWrong_wB {m : xD} (hI : Inv m) {d : Nat} (hd : d < 4) (hk : 0 < m 300 d) : wF (wB m d (sSto m) (nOth m ((d : Nat) : Int) 0) (nThere m d (sSto m) (nOth m ((d : Nat) : Int) 1))) (nR m d) = sWrong m d := by
  refine wF_congr (fun r hr => ?_)
  have ro := iRo hI hd hk hr
  have en : ((((m 303 (12 * d + r)).toNat : Nat)) : Int) = m 303 (12 * d + r) := by omega
  unfold wB sWro
  have hl := nOth_lock hI (x := ((d : Nat) : Int)) (q := (m 303 (12 * d + r)).toNat)
  rw [en] at hl
  by_cases c0 : ¬ sLock m (m 303 (12 * d + r)) ((d : Nat) : Int) = -5
  · rw [if_pos (hl.mpr c0), if_pos c0]
  · rw [if_neg (fun h => c0 (hl.mp h)), if_neg c0]
    by_cases c1 : sAsk m d r (sSto m (m 303 (12 * d + r)).toNat) = 0
    · rw [if_pos c1, if_pos c1]
    · rw [if_neg c1, if_neg c1]
      by_cases c2 : m 303 (12 * d + 8 + r) = 0
      · rw [if_pos c2, if_neg]
        exact xexf0 (P := fun q => bBad m d r q = true) (Nat.le_refl _) (fun q hq h => (bBad_iff.mp h).1 c2)
      · rw [if_neg c2]
        have kt := kin_there (n := (m 303 (12 * d + r)).toNat) (z2 := nOth m ((d : Nat) : Int) 1) (f := sSto m) hI hd hk
        by_cases c3 : ((sKin m (m 303 (12 * d + r)).toNat &&& nThere m d (sSto m) (nOth m ((d : Nat) : Int) 1) : Nat) : Int) = 0
        · rw [if_pos c3, if_neg]
          refine xexf0 (P := fun q => bBad m d r q = true) (Nat.le_refl _) (fun q hq h => ?_)
          have b := bBad_iff.mp h
          refine kt.mp c3 q hq ⟨b.2.1, ?_⟩
          rcases b.2.2 with b3 | b3
          · refine .inl ⟨b3.1, ?_⟩
            rcases b3.2 with b4 | b4
            · exact .inl b4
            · exact .inr ((nOth_com hI).mpr b4)
          · exact .inr b3
        · rw [if_neg c3, if_pos]
          apply Classical.byContradiction
          intro hn
          refine c3 (kt.mpr (fun q hq hc => hn (xexb_iff.mpr ⟨q, hq, decide_eq_true (bBad_iff.mpr ⟨c2, hc.1, ?_⟩)⟩)))
          rcases hc.2 with b3 | b3
          · refine .inl ⟨b3.1, ?_⟩
            rcases b3.2 with b4 | b4
            · exact .inl b4
            · exact .inr ((nOth_com hI).mp b4)
          · exact .inr b3
