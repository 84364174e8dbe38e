/-! WHICH INSTRUCTIONS return, which call -/
set_option maxHeartbeats 4000000 in
theorem xchk_ret {own : String} {mi pc len j : Nat} {i : Instr} {o : xOp} (hchk : xchk own mi pc ((i, len, j), o) = true) (hop : o.1 = 25) : len = 1 ∧ ((i = .return_ ∧ o.2.1 = 0) ∨ (i = .ireturn ∧ o.2.1 = 1) ∨ (i = .lreturn ∧ o.2.1 = 2)) := by
  cases i
  case iconst n =>
    have hz : (decide (o = (0, 0, 0, n, [])) && Nat.beq len 1 && decide ((-1 : Int) ≤ n) && decide (n ≤ 5)) = true := hchk
    simp only [Bool.and_eq_true, decide_eq_true_eq, Nat.beq_eq] at hz
    obtain ⟨⟨⟨rfl, rfl⟩, hn1⟩, hn2⟩ := hz
    exact absurd (show (0 : Nat) = 25 from hop) (by decide)
  case bipush n =>
    have hz : (decide (o = (0, 0, 0, n, [])) && Nat.beq len 2 && decide ((-128 : Int) ≤ n) && decide (n ≤ 127)) = true := hchk
    simp only [Bool.and_eq_true, decide_eq_true_eq, Nat.beq_eq] at hz
    obtain ⟨⟨⟨rfl, rfl⟩, hn1⟩, hn2⟩ := hz
    exact absurd (show (0 : Nat) = 25 from hop) (by decide)
  case sipush n =>
    have hz : (decide (o = (0, 0, 0, n, [])) && Nat.beq len 3 && decide ((-32768 : Int) ≤ n) && decide (n ≤ 32767)) = true := hchk
    simp only [Bool.and_eq_true, decide_eq_true_eq, Nat.beq_eq] at hz
    obtain ⟨⟨⟨rfl, rfl⟩, hn1⟩, hn2⟩ := hz
    exact absurd (show (0 : Nat) = 25 from hop) (by decide)
  case lconst n =>
    have hz : (decide (o = (0, 1, 0, ((n : Nat) : Int), [])) && Nat.beq len 1) = true := hchk
    simp only [Bool.and_eq_true, decide_eq_true_eq, Nat.beq_eq] at hz
    obtain ⟨rfl, rfl⟩ := hz
    exact absurd (show (0 : Nat) = 25 from hop) (by decide)
  case ldc_w i =>
    cases hu : xCT[j]? with
    | none =>
      have hz : (match xCT[j]? with
        | some u => decide (u.1 = own) && Nat.beq u.2.1 i && decide (o = (0, 0, 0, u.2.2.1, [])) && !u.2.2.2 && Nat.beq len 3 && decide ((-2147483648 : Int) ≤ u.2.2.1) && decide (u.2.2.1 < 2147483648)
        | none => false) = true := hchk
      rw [hu] at hz
      cases hz
    | some u =>
    have hz : (match xCT[j]? with
        | some u => decide (u.1 = own) && Nat.beq u.2.1 i && decide (o = (0, 0, 0, u.2.2.1, [])) && !u.2.2.2 && Nat.beq len 3 && decide ((-2147483648 : Int) ≤ u.2.2.1) && decide (u.2.2.1 < 2147483648)
        | none => false) = true := hchk
    rw [hu] at hz
    simp only [Bool.and_eq_true, decide_eq_true_eq, Nat.beq_eq, Bool.not_eq_true'] at hz
    obtain ⟨⟨⟨⟨⟨⟨hu1, hu2⟩, rfl⟩, hu4⟩, rfl⟩, hn1⟩, hn2⟩ := hz
    exact absurd (show (0 : Nat) = 25 from hop) (by decide)
  case ldc2_w i =>
    cases hu : xCT[j]? with
    | none =>
      have hz : (match xCT[j]? with
        | some u => decide (u.1 = own) && Nat.beq u.2.1 i && decide (o = (0, 1, 0, u.2.2.1, [])) && u.2.2.2 && Nat.beq len 3 && decide ((-9223372036854775808 : Int) ≤ u.2.2.1) && decide (u.2.2.1 < 9223372036854775808)
        | none => false) = true := hchk
      rw [hu] at hz
      cases hz
    | some u =>
    have hz : (match xCT[j]? with
        | some u => decide (u.1 = own) && Nat.beq u.2.1 i && decide (o = (0, 1, 0, u.2.2.1, [])) && u.2.2.2 && Nat.beq len 3 && decide ((-9223372036854775808 : Int) ≤ u.2.2.1) && decide (u.2.2.1 < 9223372036854775808)
        | none => false) = true := hchk
    rw [hu] at hz
    simp only [Bool.and_eq_true, decide_eq_true_eq, Nat.beq_eq, Bool.not_eq_true'] at hz
    obtain ⟨⟨⟨⟨⟨⟨hu1, hu2⟩, rfl⟩, hu4⟩, rfl⟩, hn1⟩, hn2⟩ := hz
    exact absurd (show (0 : Nat) = 25 from hop) (by decide)
  case iload_n k =>
    have hz : (decide (o = (1, (k : Nat), 0, 0, [])) && Nat.beq len 1) = true := hchk
    simp only [Bool.and_eq_true, decide_eq_true_eq, Nat.beq_eq] at hz
    obtain ⟨rfl, rfl⟩ := hz
    exact absurd (show (1 : Nat) = 25 from hop) (by decide)
  case iload k =>
    have hz : (decide (o = (1, k, 0, 0, [])) && Nat.beq len 2) = true := hchk
    simp only [Bool.and_eq_true, decide_eq_true_eq, Nat.beq_eq] at hz
    obtain ⟨rfl, rfl⟩ := hz
    exact absurd (show (1 : Nat) = 25 from hop) (by decide)
  case lload_n k =>
    have hz : (decide (o = (1, (k : Nat), 1, 0, [])) && Nat.beq len 1) = true := hchk
    simp only [Bool.and_eq_true, decide_eq_true_eq, Nat.beq_eq] at hz
    obtain ⟨rfl, rfl⟩ := hz
    exact absurd (show (1 : Nat) = 25 from hop) (by decide)
  case lload k =>
    have hz : (decide (o = (1, k, 1, 0, [])) && Nat.beq len 2) = true := hchk
    simp only [Bool.and_eq_true, decide_eq_true_eq, Nat.beq_eq] at hz
    obtain ⟨rfl, rfl⟩ := hz
    exact absurd (show (1 : Nat) = 25 from hop) (by decide)
  case aload_n k =>
    have hz : (decide (o = (1, (k : Nat), 2, 0, [])) && Nat.beq len 1) = true := hchk
    simp only [Bool.and_eq_true, decide_eq_true_eq, Nat.beq_eq] at hz
    obtain ⟨rfl, rfl⟩ := hz
    exact absurd (show (1 : Nat) = 25 from hop) (by decide)
  case aload k =>
    have hz : (decide (o = (1, k, 2, 0, [])) && Nat.beq len 2) = true := hchk
    simp only [Bool.and_eq_true, decide_eq_true_eq, Nat.beq_eq] at hz
    obtain ⟨rfl, rfl⟩ := hz
    exact absurd (show (1 : Nat) = 25 from hop) (by decide)
  case istore_n k =>
    have hz : (decide (o = (2, (k : Nat), 0, 0, [])) && Nat.beq len 1) = true := hchk
    simp only [Bool.and_eq_true, decide_eq_true_eq, Nat.beq_eq] at hz
    obtain ⟨rfl, rfl⟩ := hz
    exact absurd (show (2 : Nat) = 25 from hop) (by decide)
  case istore k =>
    have hz : (decide (o = (2, k, 0, 0, [])) && Nat.beq len 2) = true := hchk
    simp only [Bool.and_eq_true, decide_eq_true_eq, Nat.beq_eq] at hz
    obtain ⟨rfl, rfl⟩ := hz
    exact absurd (show (2 : Nat) = 25 from hop) (by decide)
  case lstore_n k =>
    have hz : (decide (o = (2, (k : Nat), 1, 0, [])) && Nat.beq len 1) = true := hchk
    simp only [Bool.and_eq_true, decide_eq_true_eq, Nat.beq_eq] at hz
    obtain ⟨rfl, rfl⟩ := hz
    exact absurd (show (2 : Nat) = 25 from hop) (by decide)
  case lstore k =>
    have hz : (decide (o = (2, k, 1, 0, [])) && Nat.beq len 2) = true := hchk
    simp only [Bool.and_eq_true, decide_eq_true_eq, Nat.beq_eq] at hz
    obtain ⟨rfl, rfl⟩ := hz
    exact absurd (show (2 : Nat) = 25 from hop) (by decide)
  case astore_n k =>
    have hz : (decide (o = (2, (k : Nat), 2, 0, [])) && Nat.beq len 1) = true := hchk
    simp only [Bool.and_eq_true, decide_eq_true_eq, Nat.beq_eq] at hz
    obtain ⟨rfl, rfl⟩ := hz
    exact absurd (show (2 : Nat) = 25 from hop) (by decide)
  case astore k =>
    have hz : (decide (o = (2, k, 2, 0, [])) && Nat.beq len 2) = true := hchk
    simp only [Bool.and_eq_true, decide_eq_true_eq, Nat.beq_eq] at hz
    obtain ⟨rfl, rfl⟩ := hz
    exact absurd (show (2 : Nat) = 25 from hop) (by decide)
  case iinc k n =>
    have hz : (decide (o = (3, k, 0, n, [])) && Nat.beq len 3) = true := hchk
    simp only [Bool.and_eq_true, decide_eq_true_eq, Nat.beq_eq] at hz
    obtain ⟨rfl, rfl⟩ := hz
    exact absurd (show (3 : Nat) = 25 from hop) (by decide)
  case iadd =>
    have hz : (decide (o = (4, 0, 0, 0, [])) && Nat.beq len 1) = true := hchk
    simp only [Bool.and_eq_true, decide_eq_true_eq, Nat.beq_eq] at hz
    obtain ⟨rfl, rfl⟩ := hz
    exact absurd (show (4 : Nat) = 25 from hop) (by decide)
  case isub =>
    have hz : (decide (o = (4, 1, 0, 0, [])) && Nat.beq len 1) = true := hchk
    simp only [Bool.and_eq_true, decide_eq_true_eq, Nat.beq_eq] at hz
    obtain ⟨rfl, rfl⟩ := hz
    exact absurd (show (4 : Nat) = 25 from hop) (by decide)
  case imul =>
    have hz : (decide (o = (4, 2, 0, 0, [])) && Nat.beq len 1) = true := hchk
    simp only [Bool.and_eq_true, decide_eq_true_eq, Nat.beq_eq] at hz
    obtain ⟨rfl, rfl⟩ := hz
    exact absurd (show (4 : Nat) = 25 from hop) (by decide)
  case iand =>
    have hz : (decide (o = (4, 3, 0, 0, [])) && Nat.beq len 1) = true := hchk
    simp only [Bool.and_eq_true, decide_eq_true_eq, Nat.beq_eq] at hz
    obtain ⟨rfl, rfl⟩ := hz
    exact absurd (show (4 : Nat) = 25 from hop) (by decide)
  case ior =>
    have hz : (decide (o = (4, 4, 0, 0, [])) && Nat.beq len 1) = true := hchk
    simp only [Bool.and_eq_true, decide_eq_true_eq, Nat.beq_eq] at hz
    obtain ⟨rfl, rfl⟩ := hz
    exact absurd (show (4 : Nat) = 25 from hop) (by decide)
  case ixor =>
    have hz : (decide (o = (4, 5, 0, 0, [])) && Nat.beq len 1) = true := hchk
    simp only [Bool.and_eq_true, decide_eq_true_eq, Nat.beq_eq] at hz
    obtain ⟨rfl, rfl⟩ := hz
    exact absurd (show (4 : Nat) = 25 from hop) (by decide)
  case ishl =>
    have hz : (decide (o = (4, 6, 0, 0, [])) && Nat.beq len 1) = true := hchk
    simp only [Bool.and_eq_true, decide_eq_true_eq, Nat.beq_eq] at hz
    obtain ⟨rfl, rfl⟩ := hz
    exact absurd (show (4 : Nat) = 25 from hop) (by decide)
  case ishr =>
    have hz : (decide (o = (4, 7, 0, 0, [])) && Nat.beq len 1) = true := hchk
    simp only [Bool.and_eq_true, decide_eq_true_eq, Nat.beq_eq] at hz
    obtain ⟨rfl, rfl⟩ := hz
    exact absurd (show (4 : Nat) = 25 from hop) (by decide)
  case iushr =>
    have hz : (decide (o = (4, 8, 0, 0, [])) && Nat.beq len 1) = true := hchk
    simp only [Bool.and_eq_true, decide_eq_true_eq, Nat.beq_eq] at hz
    obtain ⟨rfl, rfl⟩ := hz
    exact absurd (show (4 : Nat) = 25 from hop) (by decide)
  case idiv =>
    have hz : (decide (o = (4, 9, 0, 0, [])) && Nat.beq len 1) = true := hchk
    simp only [Bool.and_eq_true, decide_eq_true_eq, Nat.beq_eq] at hz
    obtain ⟨rfl, rfl⟩ := hz
    exact absurd (show (4 : Nat) = 25 from hop) (by decide)
  case irem =>
    have hz : (decide (o = (4, 10, 0, 0, [])) && Nat.beq len 1) = true := hchk
    simp only [Bool.and_eq_true, decide_eq_true_eq, Nat.beq_eq] at hz
    obtain ⟨rfl, rfl⟩ := hz
    exact absurd (show (4 : Nat) = 25 from hop) (by decide)
  case i2l =>
    have hz : (decide (o = (5, 0, 0, 0, [])) && Nat.beq len 1) = true := hchk
    simp only [Bool.and_eq_true, decide_eq_true_eq, Nat.beq_eq] at hz
    obtain ⟨rfl, rfl⟩ := hz
    exact absurd (show (5 : Nat) = 25 from hop) (by decide)
  case l2i =>
    have hz : (decide (o = (5, 1, 0, 0, [])) && Nat.beq len 1) = true := hchk
    simp only [Bool.and_eq_true, decide_eq_true_eq, Nat.beq_eq] at hz
    obtain ⟨rfl, rfl⟩ := hz
    exact absurd (show (5 : Nat) = 25 from hop) (by decide)
  case i2b =>
    have hz : (decide (o = (5, 2, 0, 0, [])) && Nat.beq len 1) = true := hchk
    simp only [Bool.and_eq_true, decide_eq_true_eq, Nat.beq_eq] at hz
    obtain ⟨rfl, rfl⟩ := hz
    exact absurd (show (5 : Nat) = 25 from hop) (by decide)
  case i2s =>
    have hz : (decide (o = (5, 3, 0, 0, [])) && Nat.beq len 1) = true := hchk
    simp only [Bool.and_eq_true, decide_eq_true_eq, Nat.beq_eq] at hz
    obtain ⟨rfl, rfl⟩ := hz
    exact absurd (show (5 : Nat) = 25 from hop) (by decide)
  case lneg =>
    have hz : (decide (o = (5, 4, 0, 0, [])) && Nat.beq len 1) = true := hchk
    simp only [Bool.and_eq_true, decide_eq_true_eq, Nat.beq_eq] at hz
    obtain ⟨rfl, rfl⟩ := hz
    exact absurd (show (5 : Nat) = 25 from hop) (by decide)
  case ladd =>
    have hz : (decide (o = (6, 0, 0, 0, [])) && Nat.beq len 1) = true := hchk
    simp only [Bool.and_eq_true, decide_eq_true_eq, Nat.beq_eq] at hz
    obtain ⟨rfl, rfl⟩ := hz
    exact absurd (show (6 : Nat) = 25 from hop) (by decide)
  case land =>
    have hz : (decide (o = (6, 1, 0, 0, [])) && Nat.beq len 1) = true := hchk
    simp only [Bool.and_eq_true, decide_eq_true_eq, Nat.beq_eq] at hz
    obtain ⟨rfl, rfl⟩ := hz
    exact absurd (show (6 : Nat) = 25 from hop) (by decide)
  case lor =>
    have hz : (decide (o = (6, 2, 0, 0, [])) && Nat.beq len 1) = true := hchk
    simp only [Bool.and_eq_true, decide_eq_true_eq, Nat.beq_eq] at hz
    obtain ⟨rfl, rfl⟩ := hz
    exact absurd (show (6 : Nat) = 25 from hop) (by decide)
  case ldiv =>
    have hz : (decide (o = (6, 4, 0, 0, [])) && Nat.beq len 1) = true := hchk
    simp only [Bool.and_eq_true, decide_eq_true_eq, Nat.beq_eq] at hz
    obtain ⟨rfl, rfl⟩ := hz
    exact absurd (show (6 : Nat) = 25 from hop) (by decide)
  case lrem =>
    have hz : (decide (o = (6, 5, 0, 0, [])) && Nat.beq len 1) = true := hchk
    simp only [Bool.and_eq_true, decide_eq_true_eq, Nat.beq_eq] at hz
    obtain ⟨rfl, rfl⟩ := hz
    exact absurd (show (6 : Nat) = 25 from hop) (by decide)
  case lshl =>
    have hz : (decide (o = (6, 6, 0, 0, [])) && Nat.beq len 1) = true := hchk
    simp only [Bool.and_eq_true, decide_eq_true_eq, Nat.beq_eq] at hz
    obtain ⟨rfl, rfl⟩ := hz
    exact absurd (show (6 : Nat) = 25 from hop) (by decide)
  case lushr =>
    have hz : (decide (o = (6, 7, 0, 0, [])) && Nat.beq len 1) = true := hchk
    simp only [Bool.and_eq_true, decide_eq_true_eq, Nat.beq_eq] at hz
    obtain ⟨rfl, rfl⟩ := hz
    exact absurd (show (6 : Nat) = 25 from hop) (by decide)
  case lcmp =>
    have hz : (decide (o = (6, 8, 0, 0, [])) && Nat.beq len 1) = true := hchk
    simp only [Bool.and_eq_true, decide_eq_true_eq, Nat.beq_eq] at hz
    obtain ⟨rfl, rfl⟩ := hz
    exact absurd (show (6 : Nat) = 25 from hop) (by decide)
  case ifCond op off =>
    cases op
    case eq =>
      have hz : (decide (o = (7, 0, o.2.2.1, 0, [])) && Nat.beq len 3 && decide ((pc : Int) + off = (o.2.2.1 : Int))) = true := hchk
      simp only [Bool.and_eq_true, decide_eq_true_eq, Nat.beq_eq] at hz
      rw [hz.1.1] at hop
      exact absurd (show (7 : Nat) = 25 from hop) (by decide)
    case ne =>
      have hz : (decide (o = (7, 1, o.2.2.1, 0, [])) && Nat.beq len 3 && decide ((pc : Int) + off = (o.2.2.1 : Int))) = true := hchk
      simp only [Bool.and_eq_true, decide_eq_true_eq, Nat.beq_eq] at hz
      rw [hz.1.1] at hop
      exact absurd (show (7 : Nat) = 25 from hop) (by decide)
    case lt =>
      have hz : (decide (o = (7, 2, o.2.2.1, 0, [])) && Nat.beq len 3 && decide ((pc : Int) + off = (o.2.2.1 : Int))) = true := hchk
      simp only [Bool.and_eq_true, decide_eq_true_eq, Nat.beq_eq] at hz
      rw [hz.1.1] at hop
      exact absurd (show (7 : Nat) = 25 from hop) (by decide)
    case ge =>
      have hz : (decide (o = (7, 3, o.2.2.1, 0, [])) && Nat.beq len 3 && decide ((pc : Int) + off = (o.2.2.1 : Int))) = true := hchk
      simp only [Bool.and_eq_true, decide_eq_true_eq, Nat.beq_eq] at hz
      rw [hz.1.1] at hop
      exact absurd (show (7 : Nat) = 25 from hop) (by decide)
    case gt =>
      have hz : (decide (o = (7, 4, o.2.2.1, 0, [])) && Nat.beq len 3 && decide ((pc : Int) + off = (o.2.2.1 : Int))) = true := hchk
      simp only [Bool.and_eq_true, decide_eq_true_eq, Nat.beq_eq] at hz
      rw [hz.1.1] at hop
      exact absurd (show (7 : Nat) = 25 from hop) (by decide)
    case le =>
      have hz : (decide (o = (7, 5, o.2.2.1, 0, [])) && Nat.beq len 3 && decide ((pc : Int) + off = (o.2.2.1 : Int))) = true := hchk
      simp only [Bool.and_eq_true, decide_eq_true_eq, Nat.beq_eq] at hz
      rw [hz.1.1] at hop
      exact absurd (show (7 : Nat) = 25 from hop) (by decide)
  case if_icmp op off =>
    cases op
    case eq =>
      have hz : (decide (o = (8, 0, o.2.2.1, 0, [])) && Nat.beq len 3 && decide ((pc : Int) + off = (o.2.2.1 : Int))) = true := hchk
      simp only [Bool.and_eq_true, decide_eq_true_eq, Nat.beq_eq] at hz
      rw [hz.1.1] at hop
      exact absurd (show (8 : Nat) = 25 from hop) (by decide)
    case ne =>
      have hz : (decide (o = (8, 1, o.2.2.1, 0, [])) && Nat.beq len 3 && decide ((pc : Int) + off = (o.2.2.1 : Int))) = true := hchk
      simp only [Bool.and_eq_true, decide_eq_true_eq, Nat.beq_eq] at hz
      rw [hz.1.1] at hop
      exact absurd (show (8 : Nat) = 25 from hop) (by decide)
    case lt =>
      have hz : (decide (o = (8, 2, o.2.2.1, 0, [])) && Nat.beq len 3 && decide ((pc : Int) + off = (o.2.2.1 : Int))) = true := hchk
      simp only [Bool.and_eq_true, decide_eq_true_eq, Nat.beq_eq] at hz
      rw [hz.1.1] at hop
      exact absurd (show (8 : Nat) = 25 from hop) (by decide)
    case ge =>
      have hz : (decide (o = (8, 3, o.2.2.1, 0, [])) && Nat.beq len 3 && decide ((pc : Int) + off = (o.2.2.1 : Int))) = true := hchk
      simp only [Bool.and_eq_true, decide_eq_true_eq, Nat.beq_eq] at hz
      rw [hz.1.1] at hop
      exact absurd (show (8 : Nat) = 25 from hop) (by decide)
    case gt =>
      have hz : (decide (o = (8, 4, o.2.2.1, 0, [])) && Nat.beq len 3 && decide ((pc : Int) + off = (o.2.2.1 : Int))) = true := hchk
      simp only [Bool.and_eq_true, decide_eq_true_eq, Nat.beq_eq] at hz
      rw [hz.1.1] at hop
      exact absurd (show (8 : Nat) = 25 from hop) (by decide)
    case le =>
      have hz : (decide (o = (8, 5, o.2.2.1, 0, [])) && Nat.beq len 3 && decide ((pc : Int) + off = (o.2.2.1 : Int))) = true := hchk
      simp only [Bool.and_eq_true, decide_eq_true_eq, Nat.beq_eq] at hz
      rw [hz.1.1] at hop
      exact absurd (show (8 : Nat) = 25 from hop) (by decide)
  case goto off =>
    have hz : (decide (o = (9, o.2.1, 0, 0, [])) && Nat.beq len 3 && decide ((pc : Int) + off = (o.2.1 : Int))) = true := hchk
    simp only [Bool.and_eq_true, decide_eq_true_eq, Nat.beq_eq] at hz
    rw [hz.1.1] at hop
    exact absurd (show (9 : Nat) = 25 from hop) (by decide)
  case tableswitch dflt lo hi offs =>
    have hz : (decide (o = (10, o.2.1, 0, lo, o.2.2.2.2)) && decide ((pc : Int) + dflt = (o.2.1 : Int)) && decide (hi + 1 = lo + (o.2.2.2.2.length : Int)) && decide (o.2.2.2.2.map (fun (z : Nat) => (z : Int)) = offs.toList.map (fun z => (pc : Int) + z))) = true := hchk
    simp only [Bool.and_eq_true, decide_eq_true_eq] at hz
    rw [hz.1.1.1] at hop
    exact absurd (show (10 : Nat) = 25 from hop) (by decide)
  case dup =>
    have hz : (decide (o = (11, 0, 0, 0, [])) && Nat.beq len 1) = true := hchk
    simp only [Bool.and_eq_true, decide_eq_true_eq, Nat.beq_eq] at hz
    obtain ⟨rfl, rfl⟩ := hz
    exact absurd (show (11 : Nat) = 25 from hop) (by decide)
  case pop =>
    have hz : (decide (o = (12, 0, 0, 0, [])) && Nat.beq len 1) = true := hchk
    simp only [Bool.and_eq_true, decide_eq_true_eq, Nat.beq_eq] at hz
    obtain ⟨rfl, rfl⟩ := hz
    exact absurd (show (12 : Nat) = 25 from hop) (by decide)
  case dup_x1 =>
    have hz : (decide (o = (13, 0, 0, 0, [])) && Nat.beq len 1) = true := hchk
    simp only [Bool.and_eq_true, decide_eq_true_eq, Nat.beq_eq] at hz
    obtain ⟨rfl, rfl⟩ := hz
    exact absurd (show (13 : Nat) = 25 from hop) (by decide)
  case dup2 =>
    have hz : (decide (o = (14, 0, 0, 0, [])) && Nat.beq len 1) = true := hchk
    simp only [Bool.and_eq_true, decide_eq_true_eq, Nat.beq_eq] at hz
    obtain ⟨rfl, rfl⟩ := hz
    exact absurd (show (14 : Nat) = 25 from hop) (by decide)
  case getfield i =>
    cases hu : xFT[j]? with
    | none =>
      have hz : (match xFT[j]? with
        | some u => decide (u.1 = own) && Nat.beq u.2.1 i && decide (o = (15, u.2.2.1, u.2.2.2, 0, [])) && Nat.beq len 3
        | none => false) = true := hchk
      rw [hu] at hz
      cases hz
    | some u =>
    have hz : (match xFT[j]? with
        | some u => decide (u.1 = own) && Nat.beq u.2.1 i && decide (o = (15, u.2.2.1, u.2.2.2, 0, [])) && Nat.beq len 3
        | none => false) = true := hchk
    rw [hu] at hz
    simp only [Bool.and_eq_true, decide_eq_true_eq, Nat.beq_eq] at hz
    obtain ⟨⟨⟨hu1, hu2⟩, rfl⟩, rfl⟩ := hz
    exact absurd (show (15 : Nat) = 25 from hop) (by decide)
  case putfield i =>
    cases hu : xFT[j]? with
    | none =>
      have hz : (match xFT[j]? with
        | some u => decide (u.1 = own) && Nat.beq u.2.1 i && decide (o = (16, u.2.2.1, u.2.2.2, 0, [])) && Nat.beq len 3
        | none => false) = true := hchk
      rw [hu] at hz
      cases hz
    | some u =>
    have hz : (match xFT[j]? with
        | some u => decide (u.1 = own) && Nat.beq u.2.1 i && decide (o = (16, u.2.2.1, u.2.2.2, 0, [])) && Nat.beq len 3
        | none => false) = true := hchk
    rw [hu] at hz
    simp only [Bool.and_eq_true, decide_eq_true_eq, Nat.beq_eq] at hz
    obtain ⟨⟨⟨hu1, hu2⟩, rfl⟩, rfl⟩ := hz
    exact absurd (show (16 : Nat) = 25 from hop) (by decide)
  case iaload =>
    have hz : (decide (o = (17, 20, 0, 0, [])) && Nat.beq len 1) = true := hchk
    simp only [Bool.and_eq_true, decide_eq_true_eq, Nat.beq_eq] at hz
    obtain ⟨rfl, rfl⟩ := hz
    exact absurd (show (17 : Nat) = 25 from hop) (by decide)
  case laload =>
    have hz : (decide (o = (17, 21, 0, 0, [])) && Nat.beq len 1) = true := hchk
    simp only [Bool.and_eq_true, decide_eq_true_eq, Nat.beq_eq] at hz
    obtain ⟨rfl, rfl⟩ := hz
    exact absurd (show (17 : Nat) = 25 from hop) (by decide)
  case baload =>
    have hz : (decide (o = (17, 22, 0, 0, [])) && Nat.beq len 1) = true := hchk
    simp only [Bool.and_eq_true, decide_eq_true_eq, Nat.beq_eq] at hz
    obtain ⟨rfl, rfl⟩ := hz
    exact absurd (show (17 : Nat) = 25 from hop) (by decide)
  case aaload =>
    have hz : (decide (o = (17, 23, 0, 0, [])) && Nat.beq len 1) = true := hchk
    simp only [Bool.and_eq_true, decide_eq_true_eq, Nat.beq_eq] at hz
    obtain ⟨rfl, rfl⟩ := hz
    exact absurd (show (17 : Nat) = 25 from hop) (by decide)
  case iastore =>
    have hz : (decide (o = (18, 20, 0, 0, [])) && Nat.beq len 1) = true := hchk
    simp only [Bool.and_eq_true, decide_eq_true_eq, Nat.beq_eq] at hz
    obtain ⟨rfl, rfl⟩ := hz
    exact absurd (show (18 : Nat) = 25 from hop) (by decide)
  case lastore =>
    have hz : (decide (o = (18, 21, 0, 0, [])) && Nat.beq len 1) = true := hchk
    simp only [Bool.and_eq_true, decide_eq_true_eq, Nat.beq_eq] at hz
    obtain ⟨rfl, rfl⟩ := hz
    exact absurd (show (18 : Nat) = 25 from hop) (by decide)
  case bastore =>
    have hz : (decide (o = (18, 22, 0, 0, [])) && Nat.beq len 1) = true := hchk
    simp only [Bool.and_eq_true, decide_eq_true_eq, Nat.beq_eq] at hz
    obtain ⟨rfl, rfl⟩ := hz
    exact absurd (show (18 : Nat) = 25 from hop) (by decide)
  case aastore =>
    have hz : (decide (o = (18, 23, 0, 0, [])) && Nat.beq len 1) = true := hchk
    simp only [Bool.and_eq_true, decide_eq_true_eq, Nat.beq_eq] at hz
    obtain ⟨rfl, rfl⟩ := hz
    exact absurd (show (18 : Nat) = 25 from hop) (by decide)
  case arraylength =>
    have hz : (decide (o = (19, 0, 0, 0, [])) && Nat.beq len 1) = true := hchk
    simp only [Bool.and_eq_true, decide_eq_true_eq, Nat.beq_eq] at hz
    obtain ⟨rfl, rfl⟩ := hz
    exact absurd (show (19 : Nat) = 25 from hop) (by decide)
  case new i =>
    cases hu : xKT[j]? with
    | none =>
      have hz : (match xKT[j]? with
        | some u => decide (u.1 = own) && Nat.beq u.2.1 i && decide (o = (20, o.2.1, 0, 0, [])) && decide (some u.2.2 = (vwCl[o.2.1]?).map (fun z => z.1)) && Nat.beq len 3
        | none => false) = true := hchk
      rw [hu] at hz
      cases hz
    | some u =>
    have hz : (match xKT[j]? with
        | some u => decide (u.1 = own) && Nat.beq u.2.1 i && decide (o = (20, o.2.1, 0, 0, [])) && decide (some u.2.2 = (vwCl[o.2.1]?).map (fun z => z.1)) && Nat.beq len 3
        | none => false) = true := hchk
    rw [hu] at hz
    simp only [Bool.and_eq_true, decide_eq_true_eq, Nat.beq_eq] at hz
    rw [hz.1.1.2] at hop
    exact absurd (show (20 : Nat) = 25 from hop) (by decide)
  case newarray at_ =>
    cases at_
    case int =>
      have hz : (decide (o = (21, 20, 0, 0, [])) && Nat.beq len 2) = true := hchk
      simp only [Bool.and_eq_true, decide_eq_true_eq, Nat.beq_eq] at hz
      obtain ⟨rfl, rfl⟩ := hz
      exact absurd (show (21 : Nat) = 25 from hop) (by decide)
    case long =>
      have hz : (decide (o = (21, 21, 0, 0, [])) && Nat.beq len 2) = true := hchk
      simp only [Bool.and_eq_true, decide_eq_true_eq, Nat.beq_eq] at hz
      obtain ⟨rfl, rfl⟩ := hz
      exact absurd (show (21 : Nat) = 25 from hop) (by decide)
    case byte =>
      have hz : (decide (o = (21, 22, 0, 0, [])) && Nat.beq len 2) = true := hchk
      simp only [Bool.and_eq_true, decide_eq_true_eq, Nat.beq_eq] at hz
      obtain ⟨rfl, rfl⟩ := hz
      exact absurd (show (21 : Nat) = 25 from hop) (by decide)
    all_goals exact absurd hchk Bool.false_ne_true
  case anewarray i =>
    cases hu : xKT[j]? with
    | none =>
      have hz : (match xKT[j]? with
        | some u => decide (u.1 = own) && Nat.beq u.2.1 i && decide (o = (22, o.2.1, 0, 0, [])) && Nat.ble 23 o.2.1 && decide (some u.2.2 = (vwCl[xrowc o.2.1]?).map (fun z => z.1)) && Nat.beq len 3
        | none => false) = true := hchk
      rw [hu] at hz
      cases hz
    | some u =>
    have hz : (match xKT[j]? with
        | some u => decide (u.1 = own) && Nat.beq u.2.1 i && decide (o = (22, o.2.1, 0, 0, [])) && Nat.ble 23 o.2.1 && decide (some u.2.2 = (vwCl[xrowc o.2.1]?).map (fun z => z.1)) && Nat.beq len 3
        | none => false) = true := hchk
    rw [hu] at hz
    simp only [Bool.and_eq_true, decide_eq_true_eq, Nat.beq_eq, Nat.ble_eq] at hz
    rw [hz.1.1.1.2] at hop
    exact absurd (show (22 : Nat) = 25 from hop) (by decide)
  case multianewarray i dm =>
    cases hu : xKT[j]? with
    | none =>
      have hz : (match xKT[j]? with
        | some u => decide (u.1 = own) && Nat.beq u.2.1 i && Nat.beq dm 2 && decide (o = (23, 0, 0, 0, [])) && decide (u.2.2 = "[[I") && Nat.beq len 4
        | none => false) = true := hchk
      rw [hu] at hz
      cases hz
    | some u =>
    have hz : (match xKT[j]? with
        | some u => decide (u.1 = own) && Nat.beq u.2.1 i && Nat.beq dm 2 && decide (o = (23, 0, 0, 0, [])) && decide (u.2.2 = "[[I") && Nat.beq len 4
        | none => false) = true := hchk
    rw [hu] at hz
    simp only [Bool.and_eq_true, decide_eq_true_eq, Nat.beq_eq] at hz
    obtain ⟨⟨⟨⟨⟨hu1, hu2⟩, rfl⟩, rfl⟩, hcn⟩, rfl⟩ := hz
    exact absurd (show (23 : Nat) = 25 from hop) (by decide)
  case getstatic i =>
    have hz : (decide (o = (28, 0, 0, 0, [])) && Nat.beq len 3 && decide (own = RX8) && Nat.beq i 310) = true := hchk
    simp only [Bool.and_eq_true, decide_eq_true_eq, Nat.beq_eq] at hz
    obtain ⟨⟨⟨rfl, rfl⟩, hcl⟩, rfl⟩ := hz
    exact absurd (show (28 : Nat) = 25 from hop) (by decide)
  case invokestatic i =>
    by_cases h26 : o.1 = 26
    · rw [h26] at hop; exact absurd hop (by decide)
    · have hz : (if o.1 = 26 then decide (o = (26, 0, 0, 0, [])) && Nat.beq len 3 && decide ((own, i) ∈ xCO) else (match xLT[j]? with
        | some u => decide (u.1 = own) && Nat.beq u.2.1 i && Nat.beq u.2.2.2 1 && decide (o = (24, u.2.2.1, o.2.2.1, 1, o.2.2.2.2)) && Nat.beq len 3
        | none => false)) = true := hchk
      rw [if_neg h26] at hz
      cases hu : xLT[j]? with
      | none => rw [hu] at hz; cases hz
      | some u =>
        rw [hu] at hz
        simp only [Bool.and_eq_true, decide_eq_true_eq, Nat.beq_eq] at hz
        have := hz.1.2
        rw [this] at hop
        exact absurd (show (24 : Nat) = 25 from hop) (by decide)
  case invokespecial i =>
    by_cases h27 : o.1 = 27
    · rw [h27] at hop; exact absurd hop (by decide)
    · have hz : (if o.1 = 27 then decide (o = (27, 0, 0, 0, [])) && Nat.beq len 3 && decide ((own, i) ∈ xOI) else (match xLT[j]? with
        | some u => decide (u.1 = own) && Nat.beq u.2.1 i && ((Nat.beq u.2.2.2 2 && decide (o = (24, u.2.2.1, o.2.2.1, 2, o.2.2.2.2))) || (Nat.beq u.2.2.2 3 && decide (o = (24, u.2.2.1, o.2.2.1, 3, o.2.2.2.2)))) && Nat.beq len 3
        | none => false)) = true := hchk
      rw [if_neg h27] at hz
      cases hu : xLT[j]? with
      | none => rw [hu] at hz; cases hz
      | some u =>
        rw [hu] at hz
        simp only [Bool.and_eq_true, Bool.or_eq_true, decide_eq_true_eq, Nat.beq_eq] at hz
        rcases hz.1.2 with w | w
        · have := w.2
          rw [this] at hop
          exact absurd (show (24 : Nat) = 25 from hop) (by decide)
        · have := w.2
          rw [this] at hop
          exact absurd (show (24 : Nat) = 25 from hop) (by decide)
  case invokevirtual i =>
    have hz : (match xLT[j]? with
        | some u => decide (u.1 = own) && Nat.beq u.2.1 i && Nat.beq u.2.2.2 0 && decide (o = (24, u.2.2.1, o.2.2.1, 0, o.2.2.2.2)) && decide (((vwCl[o.2.2.2.2.headD 99]?).map (fun z => z.1)) = some (xowny u.2.2.1)) && Nat.beq len 3
        | none => false) = true := hchk
    cases hu : xLT[j]? with
    | none => rw [hu] at hz; cases hz
    | some u =>
      rw [hu] at hz
      simp only [Bool.and_eq_true, decide_eq_true_eq, Nat.beq_eq] at hz
      have := hz.1.1.2
      rw [this] at hop
      exact absurd (show (24 : Nat) = 25 from hop) (by decide)
  case return_ =>
    have hz : (decide (o = (25, 0, 0, 0, [])) && Nat.beq len 1) = true := hchk
    simp only [Bool.and_eq_true, decide_eq_true_eq, Nat.beq_eq] at hz
    obtain ⟨rfl, rfl⟩ := hz
    exact ⟨rfl, .inl ⟨rfl, rfl⟩⟩
  case ireturn =>
    have hz : (decide (o = (25, 1, 0, 0, [])) && Nat.beq len 1) = true := hchk
    simp only [Bool.and_eq_true, decide_eq_true_eq, Nat.beq_eq] at hz
    obtain ⟨rfl, rfl⟩ := hz
    exact ⟨rfl, .inr (.inl ⟨rfl, rfl⟩)⟩
  case lreturn =>
    have hz : (decide (o = (25, 2, 0, 0, [])) && Nat.beq len 1) = true := hchk
    simp only [Bool.and_eq_true, decide_eq_true_eq, Nat.beq_eq] at hz
    obtain ⟨rfl, rfl⟩ := hz
    exact ⟨rfl, .inr (.inr ⟨rfl, rfl⟩)⟩
  all_goals exact absurd hchk Bool.false_ne_true
set_option maxHeartbeats 4000000 in
theorem xchk_call {own : String} {mi pc len j : Nat} {i : Instr} {o : xOp} (hchk : xchk own mi pc ((i, len, j), o) = true) (hop : o.1 = 24) : ∃ u, xLT[j]? = some u ∧ u.1 = own ∧ o.2.1 = u.2.2.1 ∧ len = 3 ∧ ((i = .invokevirtual u.2.1 ∧ u.2.2.2 = 0 ∧ o.2.2.2.1 = 0 ∧ ((vwCl[o.2.2.2.2.headD 99]?).map (fun z => z.1)) = some (xowny u.2.2.1)) ∨ (i = .invokestatic u.2.1 ∧ u.2.2.2 = 1 ∧ o.2.2.2.1 = 1) ∨ (i = .invokespecial u.2.1 ∧ u.2.2.2 = 2 ∧ o.2.2.2.1 = 2) ∨ (i = .invokespecial u.2.1 ∧ u.2.2.2 = 3 ∧ o.2.2.2.1 = 3)) := by
  cases i
  case iconst n =>
    have hz : (decide (o = (0, 0, 0, n, [])) && Nat.beq len 1 && decide ((-1 : Int) ≤ n) && decide (n ≤ 5)) = true := hchk
    simp only [Bool.and_eq_true, decide_eq_true_eq, Nat.beq_eq] at hz
    obtain ⟨⟨⟨rfl, rfl⟩, hn1⟩, hn2⟩ := hz
    exact absurd (show (0 : Nat) = 24 from hop) (by decide)
  case bipush n =>
    have hz : (decide (o = (0, 0, 0, n, [])) && Nat.beq len 2 && decide ((-128 : Int) ≤ n) && decide (n ≤ 127)) = true := hchk
    simp only [Bool.and_eq_true, decide_eq_true_eq, Nat.beq_eq] at hz
    obtain ⟨⟨⟨rfl, rfl⟩, hn1⟩, hn2⟩ := hz
    exact absurd (show (0 : Nat) = 24 from hop) (by decide)
  case sipush n =>
    have hz : (decide (o = (0, 0, 0, n, [])) && Nat.beq len 3 && decide ((-32768 : Int) ≤ n) && decide (n ≤ 32767)) = true := hchk
    simp only [Bool.and_eq_true, decide_eq_true_eq, Nat.beq_eq] at hz
    obtain ⟨⟨⟨rfl, rfl⟩, hn1⟩, hn2⟩ := hz
    exact absurd (show (0 : Nat) = 24 from hop) (by decide)
  case lconst n =>
    have hz : (decide (o = (0, 1, 0, ((n : Nat) : Int), [])) && Nat.beq len 1) = true := hchk
    simp only [Bool.and_eq_true, decide_eq_true_eq, Nat.beq_eq] at hz
    obtain ⟨rfl, rfl⟩ := hz
    exact absurd (show (0 : Nat) = 24 from hop) (by decide)
  case ldc_w i =>
    cases hu : xCT[j]? with
    | none =>
      have hz : (match xCT[j]? with
        | some u => decide (u.1 = own) && Nat.beq u.2.1 i && decide (o = (0, 0, 0, u.2.2.1, [])) && !u.2.2.2 && Nat.beq len 3 && decide ((-2147483648 : Int) ≤ u.2.2.1) && decide (u.2.2.1 < 2147483648)
        | none => false) = true := hchk
      rw [hu] at hz
      cases hz
    | some u =>
    have hz : (match xCT[j]? with
        | some u => decide (u.1 = own) && Nat.beq u.2.1 i && decide (o = (0, 0, 0, u.2.2.1, [])) && !u.2.2.2 && Nat.beq len 3 && decide ((-2147483648 : Int) ≤ u.2.2.1) && decide (u.2.2.1 < 2147483648)
        | none => false) = true := hchk
    rw [hu] at hz
    simp only [Bool.and_eq_true, decide_eq_true_eq, Nat.beq_eq, Bool.not_eq_true'] at hz
    obtain ⟨⟨⟨⟨⟨⟨hu1, hu2⟩, rfl⟩, hu4⟩, rfl⟩, hn1⟩, hn2⟩ := hz
    exact absurd (show (0 : Nat) = 24 from hop) (by decide)
  case ldc2_w i =>
    cases hu : xCT[j]? with
    | none =>
      have hz : (match xCT[j]? with
        | some u => decide (u.1 = own) && Nat.beq u.2.1 i && decide (o = (0, 1, 0, u.2.2.1, [])) && u.2.2.2 && Nat.beq len 3 && decide ((-9223372036854775808 : Int) ≤ u.2.2.1) && decide (u.2.2.1 < 9223372036854775808)
        | none => false) = true := hchk
      rw [hu] at hz
      cases hz
    | some u =>
    have hz : (match xCT[j]? with
        | some u => decide (u.1 = own) && Nat.beq u.2.1 i && decide (o = (0, 1, 0, u.2.2.1, [])) && u.2.2.2 && Nat.beq len 3 && decide ((-9223372036854775808 : Int) ≤ u.2.2.1) && decide (u.2.2.1 < 9223372036854775808)
        | none => false) = true := hchk
    rw [hu] at hz
    simp only [Bool.and_eq_true, decide_eq_true_eq, Nat.beq_eq, Bool.not_eq_true'] at hz
    obtain ⟨⟨⟨⟨⟨⟨hu1, hu2⟩, rfl⟩, hu4⟩, rfl⟩, hn1⟩, hn2⟩ := hz
    exact absurd (show (0 : Nat) = 24 from hop) (by decide)
  case iload_n k =>
    have hz : (decide (o = (1, (k : Nat), 0, 0, [])) && Nat.beq len 1) = true := hchk
    simp only [Bool.and_eq_true, decide_eq_true_eq, Nat.beq_eq] at hz
    obtain ⟨rfl, rfl⟩ := hz
    exact absurd (show (1 : Nat) = 24 from hop) (by decide)
  case iload k =>
    have hz : (decide (o = (1, k, 0, 0, [])) && Nat.beq len 2) = true := hchk
    simp only [Bool.and_eq_true, decide_eq_true_eq, Nat.beq_eq] at hz
    obtain ⟨rfl, rfl⟩ := hz
    exact absurd (show (1 : Nat) = 24 from hop) (by decide)
  case lload_n k =>
    have hz : (decide (o = (1, (k : Nat), 1, 0, [])) && Nat.beq len 1) = true := hchk
    simp only [Bool.and_eq_true, decide_eq_true_eq, Nat.beq_eq] at hz
    obtain ⟨rfl, rfl⟩ := hz
    exact absurd (show (1 : Nat) = 24 from hop) (by decide)
  case lload k =>
    have hz : (decide (o = (1, k, 1, 0, [])) && Nat.beq len 2) = true := hchk
    simp only [Bool.and_eq_true, decide_eq_true_eq, Nat.beq_eq] at hz
    obtain ⟨rfl, rfl⟩ := hz
    exact absurd (show (1 : Nat) = 24 from hop) (by decide)
  case aload_n k =>
    have hz : (decide (o = (1, (k : Nat), 2, 0, [])) && Nat.beq len 1) = true := hchk
    simp only [Bool.and_eq_true, decide_eq_true_eq, Nat.beq_eq] at hz
    obtain ⟨rfl, rfl⟩ := hz
    exact absurd (show (1 : Nat) = 24 from hop) (by decide)
  case aload k =>
    have hz : (decide (o = (1, k, 2, 0, [])) && Nat.beq len 2) = true := hchk
    simp only [Bool.and_eq_true, decide_eq_true_eq, Nat.beq_eq] at hz
    obtain ⟨rfl, rfl⟩ := hz
    exact absurd (show (1 : Nat) = 24 from hop) (by decide)
  case istore_n k =>
    have hz : (decide (o = (2, (k : Nat), 0, 0, [])) && Nat.beq len 1) = true := hchk
    simp only [Bool.and_eq_true, decide_eq_true_eq, Nat.beq_eq] at hz
    obtain ⟨rfl, rfl⟩ := hz
    exact absurd (show (2 : Nat) = 24 from hop) (by decide)
  case istore k =>
    have hz : (decide (o = (2, k, 0, 0, [])) && Nat.beq len 2) = true := hchk
    simp only [Bool.and_eq_true, decide_eq_true_eq, Nat.beq_eq] at hz
    obtain ⟨rfl, rfl⟩ := hz
    exact absurd (show (2 : Nat) = 24 from hop) (by decide)
  case lstore_n k =>
    have hz : (decide (o = (2, (k : Nat), 1, 0, [])) && Nat.beq len 1) = true := hchk
    simp only [Bool.and_eq_true, decide_eq_true_eq, Nat.beq_eq] at hz
    obtain ⟨rfl, rfl⟩ := hz
    exact absurd (show (2 : Nat) = 24 from hop) (by decide)
  case lstore k =>
    have hz : (decide (o = (2, k, 1, 0, [])) && Nat.beq len 2) = true := hchk
    simp only [Bool.and_eq_true, decide_eq_true_eq, Nat.beq_eq] at hz
    obtain ⟨rfl, rfl⟩ := hz
    exact absurd (show (2 : Nat) = 24 from hop) (by decide)
  case astore_n k =>
    have hz : (decide (o = (2, (k : Nat), 2, 0, [])) && Nat.beq len 1) = true := hchk
    simp only [Bool.and_eq_true, decide_eq_true_eq, Nat.beq_eq] at hz
    obtain ⟨rfl, rfl⟩ := hz
    exact absurd (show (2 : Nat) = 24 from hop) (by decide)
  case astore k =>
    have hz : (decide (o = (2, k, 2, 0, [])) && Nat.beq len 2) = true := hchk
    simp only [Bool.and_eq_true, decide_eq_true_eq, Nat.beq_eq] at hz
    obtain ⟨rfl, rfl⟩ := hz
    exact absurd (show (2 : Nat) = 24 from hop) (by decide)
  case iinc k n =>
    have hz : (decide (o = (3, k, 0, n, [])) && Nat.beq len 3) = true := hchk
    simp only [Bool.and_eq_true, decide_eq_true_eq, Nat.beq_eq] at hz
    obtain ⟨rfl, rfl⟩ := hz
    exact absurd (show (3 : Nat) = 24 from hop) (by decide)
  case iadd =>
    have hz : (decide (o = (4, 0, 0, 0, [])) && Nat.beq len 1) = true := hchk
    simp only [Bool.and_eq_true, decide_eq_true_eq, Nat.beq_eq] at hz
    obtain ⟨rfl, rfl⟩ := hz
    exact absurd (show (4 : Nat) = 24 from hop) (by decide)
  case isub =>
    have hz : (decide (o = (4, 1, 0, 0, [])) && Nat.beq len 1) = true := hchk
    simp only [Bool.and_eq_true, decide_eq_true_eq, Nat.beq_eq] at hz
    obtain ⟨rfl, rfl⟩ := hz
    exact absurd (show (4 : Nat) = 24 from hop) (by decide)
  case imul =>
    have hz : (decide (o = (4, 2, 0, 0, [])) && Nat.beq len 1) = true := hchk
    simp only [Bool.and_eq_true, decide_eq_true_eq, Nat.beq_eq] at hz
    obtain ⟨rfl, rfl⟩ := hz
    exact absurd (show (4 : Nat) = 24 from hop) (by decide)
  case iand =>
    have hz : (decide (o = (4, 3, 0, 0, [])) && Nat.beq len 1) = true := hchk
    simp only [Bool.and_eq_true, decide_eq_true_eq, Nat.beq_eq] at hz
    obtain ⟨rfl, rfl⟩ := hz
    exact absurd (show (4 : Nat) = 24 from hop) (by decide)
  case ior =>
    have hz : (decide (o = (4, 4, 0, 0, [])) && Nat.beq len 1) = true := hchk
    simp only [Bool.and_eq_true, decide_eq_true_eq, Nat.beq_eq] at hz
    obtain ⟨rfl, rfl⟩ := hz
    exact absurd (show (4 : Nat) = 24 from hop) (by decide)
  case ixor =>
    have hz : (decide (o = (4, 5, 0, 0, [])) && Nat.beq len 1) = true := hchk
    simp only [Bool.and_eq_true, decide_eq_true_eq, Nat.beq_eq] at hz
    obtain ⟨rfl, rfl⟩ := hz
    exact absurd (show (4 : Nat) = 24 from hop) (by decide)
  case ishl =>
    have hz : (decide (o = (4, 6, 0, 0, [])) && Nat.beq len 1) = true := hchk
    simp only [Bool.and_eq_true, decide_eq_true_eq, Nat.beq_eq] at hz
    obtain ⟨rfl, rfl⟩ := hz
    exact absurd (show (4 : Nat) = 24 from hop) (by decide)
  case ishr =>
    have hz : (decide (o = (4, 7, 0, 0, [])) && Nat.beq len 1) = true := hchk
    simp only [Bool.and_eq_true, decide_eq_true_eq, Nat.beq_eq] at hz
    obtain ⟨rfl, rfl⟩ := hz
    exact absurd (show (4 : Nat) = 24 from hop) (by decide)
  case iushr =>
    have hz : (decide (o = (4, 8, 0, 0, [])) && Nat.beq len 1) = true := hchk
    simp only [Bool.and_eq_true, decide_eq_true_eq, Nat.beq_eq] at hz
    obtain ⟨rfl, rfl⟩ := hz
    exact absurd (show (4 : Nat) = 24 from hop) (by decide)
  case idiv =>
    have hz : (decide (o = (4, 9, 0, 0, [])) && Nat.beq len 1) = true := hchk
    simp only [Bool.and_eq_true, decide_eq_true_eq, Nat.beq_eq] at hz
    obtain ⟨rfl, rfl⟩ := hz
    exact absurd (show (4 : Nat) = 24 from hop) (by decide)
  case irem =>
    have hz : (decide (o = (4, 10, 0, 0, [])) && Nat.beq len 1) = true := hchk
    simp only [Bool.and_eq_true, decide_eq_true_eq, Nat.beq_eq] at hz
    obtain ⟨rfl, rfl⟩ := hz
    exact absurd (show (4 : Nat) = 24 from hop) (by decide)
  case i2l =>
    have hz : (decide (o = (5, 0, 0, 0, [])) && Nat.beq len 1) = true := hchk
    simp only [Bool.and_eq_true, decide_eq_true_eq, Nat.beq_eq] at hz
    obtain ⟨rfl, rfl⟩ := hz
    exact absurd (show (5 : Nat) = 24 from hop) (by decide)
  case l2i =>
    have hz : (decide (o = (5, 1, 0, 0, [])) && Nat.beq len 1) = true := hchk
    simp only [Bool.and_eq_true, decide_eq_true_eq, Nat.beq_eq] at hz
    obtain ⟨rfl, rfl⟩ := hz
    exact absurd (show (5 : Nat) = 24 from hop) (by decide)
  case i2b =>
    have hz : (decide (o = (5, 2, 0, 0, [])) && Nat.beq len 1) = true := hchk
    simp only [Bool.and_eq_true, decide_eq_true_eq, Nat.beq_eq] at hz
    obtain ⟨rfl, rfl⟩ := hz
    exact absurd (show (5 : Nat) = 24 from hop) (by decide)
  case i2s =>
    have hz : (decide (o = (5, 3, 0, 0, [])) && Nat.beq len 1) = true := hchk
    simp only [Bool.and_eq_true, decide_eq_true_eq, Nat.beq_eq] at hz
    obtain ⟨rfl, rfl⟩ := hz
    exact absurd (show (5 : Nat) = 24 from hop) (by decide)
  case lneg =>
    have hz : (decide (o = (5, 4, 0, 0, [])) && Nat.beq len 1) = true := hchk
    simp only [Bool.and_eq_true, decide_eq_true_eq, Nat.beq_eq] at hz
    obtain ⟨rfl, rfl⟩ := hz
    exact absurd (show (5 : Nat) = 24 from hop) (by decide)
  case ladd =>
    have hz : (decide (o = (6, 0, 0, 0, [])) && Nat.beq len 1) = true := hchk
    simp only [Bool.and_eq_true, decide_eq_true_eq, Nat.beq_eq] at hz
    obtain ⟨rfl, rfl⟩ := hz
    exact absurd (show (6 : Nat) = 24 from hop) (by decide)
  case land =>
    have hz : (decide (o = (6, 1, 0, 0, [])) && Nat.beq len 1) = true := hchk
    simp only [Bool.and_eq_true, decide_eq_true_eq, Nat.beq_eq] at hz
    obtain ⟨rfl, rfl⟩ := hz
    exact absurd (show (6 : Nat) = 24 from hop) (by decide)
  case lor =>
    have hz : (decide (o = (6, 2, 0, 0, [])) && Nat.beq len 1) = true := hchk
    simp only [Bool.and_eq_true, decide_eq_true_eq, Nat.beq_eq] at hz
    obtain ⟨rfl, rfl⟩ := hz
    exact absurd (show (6 : Nat) = 24 from hop) (by decide)
  case ldiv =>
    have hz : (decide (o = (6, 4, 0, 0, [])) && Nat.beq len 1) = true := hchk
    simp only [Bool.and_eq_true, decide_eq_true_eq, Nat.beq_eq] at hz
    obtain ⟨rfl, rfl⟩ := hz
    exact absurd (show (6 : Nat) = 24 from hop) (by decide)
  case lrem =>
    have hz : (decide (o = (6, 5, 0, 0, [])) && Nat.beq len 1) = true := hchk
    simp only [Bool.and_eq_true, decide_eq_true_eq, Nat.beq_eq] at hz
    obtain ⟨rfl, rfl⟩ := hz
    exact absurd (show (6 : Nat) = 24 from hop) (by decide)
  case lshl =>
    have hz : (decide (o = (6, 6, 0, 0, [])) && Nat.beq len 1) = true := hchk
    simp only [Bool.and_eq_true, decide_eq_true_eq, Nat.beq_eq] at hz
    obtain ⟨rfl, rfl⟩ := hz
    exact absurd (show (6 : Nat) = 24 from hop) (by decide)
  case lushr =>
    have hz : (decide (o = (6, 7, 0, 0, [])) && Nat.beq len 1) = true := hchk
    simp only [Bool.and_eq_true, decide_eq_true_eq, Nat.beq_eq] at hz
    obtain ⟨rfl, rfl⟩ := hz
    exact absurd (show (6 : Nat) = 24 from hop) (by decide)
  case lcmp =>
    have hz : (decide (o = (6, 8, 0, 0, [])) && Nat.beq len 1) = true := hchk
    simp only [Bool.and_eq_true, decide_eq_true_eq, Nat.beq_eq] at hz
    obtain ⟨rfl, rfl⟩ := hz
    exact absurd (show (6 : Nat) = 24 from hop) (by decide)
  case ifCond op off =>
    cases op
    case eq =>
      have hz : (decide (o = (7, 0, o.2.2.1, 0, [])) && Nat.beq len 3 && decide ((pc : Int) + off = (o.2.2.1 : Int))) = true := hchk
      simp only [Bool.and_eq_true, decide_eq_true_eq, Nat.beq_eq] at hz
      rw [hz.1.1] at hop
      exact absurd (show (7 : Nat) = 24 from hop) (by decide)
    case ne =>
      have hz : (decide (o = (7, 1, o.2.2.1, 0, [])) && Nat.beq len 3 && decide ((pc : Int) + off = (o.2.2.1 : Int))) = true := hchk
      simp only [Bool.and_eq_true, decide_eq_true_eq, Nat.beq_eq] at hz
      rw [hz.1.1] at hop
      exact absurd (show (7 : Nat) = 24 from hop) (by decide)
    case lt =>
      have hz : (decide (o = (7, 2, o.2.2.1, 0, [])) && Nat.beq len 3 && decide ((pc : Int) + off = (o.2.2.1 : Int))) = true := hchk
      simp only [Bool.and_eq_true, decide_eq_true_eq, Nat.beq_eq] at hz
      rw [hz.1.1] at hop
      exact absurd (show (7 : Nat) = 24 from hop) (by decide)
    case ge =>
      have hz : (decide (o = (7, 3, o.2.2.1, 0, [])) && Nat.beq len 3 && decide ((pc : Int) + off = (o.2.2.1 : Int))) = true := hchk
      simp only [Bool.and_eq_true, decide_eq_true_eq, Nat.beq_eq] at hz
      rw [hz.1.1] at hop
      exact absurd (show (7 : Nat) = 24 from hop) (by decide)
    case gt =>
      have hz : (decide (o = (7, 4, o.2.2.1, 0, [])) && Nat.beq len 3 && decide ((pc : Int) + off = (o.2.2.1 : Int))) = true := hchk
      simp only [Bool.and_eq_true, decide_eq_true_eq, Nat.beq_eq] at hz
      rw [hz.1.1] at hop
      exact absurd (show (7 : Nat) = 24 from hop) (by decide)
    case le =>
      have hz : (decide (o = (7, 5, o.2.2.1, 0, [])) && Nat.beq len 3 && decide ((pc : Int) + off = (o.2.2.1 : Int))) = true := hchk
      simp only [Bool.and_eq_true, decide_eq_true_eq, Nat.beq_eq] at hz
      rw [hz.1.1] at hop
      exact absurd (show (7 : Nat) = 24 from hop) (by decide)
  case if_icmp op off =>
    cases op
    case eq =>
      have hz : (decide (o = (8, 0, o.2.2.1, 0, [])) && Nat.beq len 3 && decide ((pc : Int) + off = (o.2.2.1 : Int))) = true := hchk
      simp only [Bool.and_eq_true, decide_eq_true_eq, Nat.beq_eq] at hz
      rw [hz.1.1] at hop
      exact absurd (show (8 : Nat) = 24 from hop) (by decide)
    case ne =>
      have hz : (decide (o = (8, 1, o.2.2.1, 0, [])) && Nat.beq len 3 && decide ((pc : Int) + off = (o.2.2.1 : Int))) = true := hchk
      simp only [Bool.and_eq_true, decide_eq_true_eq, Nat.beq_eq] at hz
      rw [hz.1.1] at hop
      exact absurd (show (8 : Nat) = 24 from hop) (by decide)
    case lt =>
      have hz : (decide (o = (8, 2, o.2.2.1, 0, [])) && Nat.beq len 3 && decide ((pc : Int) + off = (o.2.2.1 : Int))) = true := hchk
      simp only [Bool.and_eq_true, decide_eq_true_eq, Nat.beq_eq] at hz
      rw [hz.1.1] at hop
      exact absurd (show (8 : Nat) = 24 from hop) (by decide)
    case ge =>
      have hz : (decide (o = (8, 3, o.2.2.1, 0, [])) && Nat.beq len 3 && decide ((pc : Int) + off = (o.2.2.1 : Int))) = true := hchk
      simp only [Bool.and_eq_true, decide_eq_true_eq, Nat.beq_eq] at hz
      rw [hz.1.1] at hop
      exact absurd (show (8 : Nat) = 24 from hop) (by decide)
    case gt =>
      have hz : (decide (o = (8, 4, o.2.2.1, 0, [])) && Nat.beq len 3 && decide ((pc : Int) + off = (o.2.2.1 : Int))) = true := hchk
      simp only [Bool.and_eq_true, decide_eq_true_eq, Nat.beq_eq] at hz
      rw [hz.1.1] at hop
      exact absurd (show (8 : Nat) = 24 from hop) (by decide)
    case le =>
      have hz : (decide (o = (8, 5, o.2.2.1, 0, [])) && Nat.beq len 3 && decide ((pc : Int) + off = (o.2.2.1 : Int))) = true := hchk
      simp only [Bool.and_eq_true, decide_eq_true_eq, Nat.beq_eq] at hz
      rw [hz.1.1] at hop
      exact absurd (show (8 : Nat) = 24 from hop) (by decide)
  case goto off =>
    have hz : (decide (o = (9, o.2.1, 0, 0, [])) && Nat.beq len 3 && decide ((pc : Int) + off = (o.2.1 : Int))) = true := hchk
    simp only [Bool.and_eq_true, decide_eq_true_eq, Nat.beq_eq] at hz
    rw [hz.1.1] at hop
    exact absurd (show (9 : Nat) = 24 from hop) (by decide)
  case tableswitch dflt lo hi offs =>
    have hz : (decide (o = (10, o.2.1, 0, lo, o.2.2.2.2)) && decide ((pc : Int) + dflt = (o.2.1 : Int)) && decide (hi + 1 = lo + (o.2.2.2.2.length : Int)) && decide (o.2.2.2.2.map (fun (z : Nat) => (z : Int)) = offs.toList.map (fun z => (pc : Int) + z))) = true := hchk
    simp only [Bool.and_eq_true, decide_eq_true_eq] at hz
    rw [hz.1.1.1] at hop
    exact absurd (show (10 : Nat) = 24 from hop) (by decide)
  case dup =>
    have hz : (decide (o = (11, 0, 0, 0, [])) && Nat.beq len 1) = true := hchk
    simp only [Bool.and_eq_true, decide_eq_true_eq, Nat.beq_eq] at hz
    obtain ⟨rfl, rfl⟩ := hz
    exact absurd (show (11 : Nat) = 24 from hop) (by decide)
  case pop =>
    have hz : (decide (o = (12, 0, 0, 0, [])) && Nat.beq len 1) = true := hchk
    simp only [Bool.and_eq_true, decide_eq_true_eq, Nat.beq_eq] at hz
    obtain ⟨rfl, rfl⟩ := hz
    exact absurd (show (12 : Nat) = 24 from hop) (by decide)
  case dup_x1 =>
    have hz : (decide (o = (13, 0, 0, 0, [])) && Nat.beq len 1) = true := hchk
    simp only [Bool.and_eq_true, decide_eq_true_eq, Nat.beq_eq] at hz
    obtain ⟨rfl, rfl⟩ := hz
    exact absurd (show (13 : Nat) = 24 from hop) (by decide)
  case dup2 =>
    have hz : (decide (o = (14, 0, 0, 0, [])) && Nat.beq len 1) = true := hchk
    simp only [Bool.and_eq_true, decide_eq_true_eq, Nat.beq_eq] at hz
    obtain ⟨rfl, rfl⟩ := hz
    exact absurd (show (14 : Nat) = 24 from hop) (by decide)
  case getfield i =>
    cases hu : xFT[j]? with
    | none =>
      have hz : (match xFT[j]? with
        | some u => decide (u.1 = own) && Nat.beq u.2.1 i && decide (o = (15, u.2.2.1, u.2.2.2, 0, [])) && Nat.beq len 3
        | none => false) = true := hchk
      rw [hu] at hz
      cases hz
    | some u =>
    have hz : (match xFT[j]? with
        | some u => decide (u.1 = own) && Nat.beq u.2.1 i && decide (o = (15, u.2.2.1, u.2.2.2, 0, [])) && Nat.beq len 3
        | none => false) = true := hchk
    rw [hu] at hz
    simp only [Bool.and_eq_true, decide_eq_true_eq, Nat.beq_eq] at hz
    obtain ⟨⟨⟨hu1, hu2⟩, rfl⟩, rfl⟩ := hz
    exact absurd (show (15 : Nat) = 24 from hop) (by decide)
  case putfield i =>
    cases hu : xFT[j]? with
    | none =>
      have hz : (match xFT[j]? with
        | some u => decide (u.1 = own) && Nat.beq u.2.1 i && decide (o = (16, u.2.2.1, u.2.2.2, 0, [])) && Nat.beq len 3
        | none => false) = true := hchk
      rw [hu] at hz
      cases hz
    | some u =>
    have hz : (match xFT[j]? with
        | some u => decide (u.1 = own) && Nat.beq u.2.1 i && decide (o = (16, u.2.2.1, u.2.2.2, 0, [])) && Nat.beq len 3
        | none => false) = true := hchk
    rw [hu] at hz
    simp only [Bool.and_eq_true, decide_eq_true_eq, Nat.beq_eq] at hz
    obtain ⟨⟨⟨hu1, hu2⟩, rfl⟩, rfl⟩ := hz
    exact absurd (show (16 : Nat) = 24 from hop) (by decide)
  case iaload =>
    have hz : (decide (o = (17, 20, 0, 0, [])) && Nat.beq len 1) = true := hchk
    simp only [Bool.and_eq_true, decide_eq_true_eq, Nat.beq_eq] at hz
    obtain ⟨rfl, rfl⟩ := hz
    exact absurd (show (17 : Nat) = 24 from hop) (by decide)
  case laload =>
    have hz : (decide (o = (17, 21, 0, 0, [])) && Nat.beq len 1) = true := hchk
    simp only [Bool.and_eq_true, decide_eq_true_eq, Nat.beq_eq] at hz
    obtain ⟨rfl, rfl⟩ := hz
    exact absurd (show (17 : Nat) = 24 from hop) (by decide)
  case baload =>
    have hz : (decide (o = (17, 22, 0, 0, [])) && Nat.beq len 1) = true := hchk
    simp only [Bool.and_eq_true, decide_eq_true_eq, Nat.beq_eq] at hz
    obtain ⟨rfl, rfl⟩ := hz
    exact absurd (show (17 : Nat) = 24 from hop) (by decide)
  case aaload =>
    have hz : (decide (o = (17, 23, 0, 0, [])) && Nat.beq len 1) = true := hchk
    simp only [Bool.and_eq_true, decide_eq_true_eq, Nat.beq_eq] at hz
    obtain ⟨rfl, rfl⟩ := hz
    exact absurd (show (17 : Nat) = 24 from hop) (by decide)
  case iastore =>
    have hz : (decide (o = (18, 20, 0, 0, [])) && Nat.beq len 1) = true := hchk
    simp only [Bool.and_eq_true, decide_eq_true_eq, Nat.beq_eq] at hz
    obtain ⟨rfl, rfl⟩ := hz
    exact absurd (show (18 : Nat) = 24 from hop) (by decide)
  case lastore =>
    have hz : (decide (o = (18, 21, 0, 0, [])) && Nat.beq len 1) = true := hchk
    simp only [Bool.and_eq_true, decide_eq_true_eq, Nat.beq_eq] at hz
    obtain ⟨rfl, rfl⟩ := hz
    exact absurd (show (18 : Nat) = 24 from hop) (by decide)
  case bastore =>
    have hz : (decide (o = (18, 22, 0, 0, [])) && Nat.beq len 1) = true := hchk
    simp only [Bool.and_eq_true, decide_eq_true_eq, Nat.beq_eq] at hz
    obtain ⟨rfl, rfl⟩ := hz
    exact absurd (show (18 : Nat) = 24 from hop) (by decide)
  case aastore =>
    have hz : (decide (o = (18, 23, 0, 0, [])) && Nat.beq len 1) = true := hchk
    simp only [Bool.and_eq_true, decide_eq_true_eq, Nat.beq_eq] at hz
    obtain ⟨rfl, rfl⟩ := hz
    exact absurd (show (18 : Nat) = 24 from hop) (by decide)
  case arraylength =>
    have hz : (decide (o = (19, 0, 0, 0, [])) && Nat.beq len 1) = true := hchk
    simp only [Bool.and_eq_true, decide_eq_true_eq, Nat.beq_eq] at hz
    obtain ⟨rfl, rfl⟩ := hz
    exact absurd (show (19 : Nat) = 24 from hop) (by decide)
  case new i =>
    cases hu : xKT[j]? with
    | none =>
      have hz : (match xKT[j]? with
        | some u => decide (u.1 = own) && Nat.beq u.2.1 i && decide (o = (20, o.2.1, 0, 0, [])) && decide (some u.2.2 = (vwCl[o.2.1]?).map (fun z => z.1)) && Nat.beq len 3
        | none => false) = true := hchk
      rw [hu] at hz
      cases hz
    | some u =>
    have hz : (match xKT[j]? with
        | some u => decide (u.1 = own) && Nat.beq u.2.1 i && decide (o = (20, o.2.1, 0, 0, [])) && decide (some u.2.2 = (vwCl[o.2.1]?).map (fun z => z.1)) && Nat.beq len 3
        | none => false) = true := hchk
    rw [hu] at hz
    simp only [Bool.and_eq_true, decide_eq_true_eq, Nat.beq_eq] at hz
    rw [hz.1.1.2] at hop
    exact absurd (show (20 : Nat) = 24 from hop) (by decide)
  case newarray at_ =>
    cases at_
    case int =>
      have hz : (decide (o = (21, 20, 0, 0, [])) && Nat.beq len 2) = true := hchk
      simp only [Bool.and_eq_true, decide_eq_true_eq, Nat.beq_eq] at hz
      obtain ⟨rfl, rfl⟩ := hz
      exact absurd (show (21 : Nat) = 24 from hop) (by decide)
    case long =>
      have hz : (decide (o = (21, 21, 0, 0, [])) && Nat.beq len 2) = true := hchk
      simp only [Bool.and_eq_true, decide_eq_true_eq, Nat.beq_eq] at hz
      obtain ⟨rfl, rfl⟩ := hz
      exact absurd (show (21 : Nat) = 24 from hop) (by decide)
    case byte =>
      have hz : (decide (o = (21, 22, 0, 0, [])) && Nat.beq len 2) = true := hchk
      simp only [Bool.and_eq_true, decide_eq_true_eq, Nat.beq_eq] at hz
      obtain ⟨rfl, rfl⟩ := hz
      exact absurd (show (21 : Nat) = 24 from hop) (by decide)
    all_goals exact absurd hchk Bool.false_ne_true
  case anewarray i =>
    cases hu : xKT[j]? with
    | none =>
      have hz : (match xKT[j]? with
        | some u => decide (u.1 = own) && Nat.beq u.2.1 i && decide (o = (22, o.2.1, 0, 0, [])) && Nat.ble 23 o.2.1 && decide (some u.2.2 = (vwCl[xrowc o.2.1]?).map (fun z => z.1)) && Nat.beq len 3
        | none => false) = true := hchk
      rw [hu] at hz
      cases hz
    | some u =>
    have hz : (match xKT[j]? with
        | some u => decide (u.1 = own) && Nat.beq u.2.1 i && decide (o = (22, o.2.1, 0, 0, [])) && Nat.ble 23 o.2.1 && decide (some u.2.2 = (vwCl[xrowc o.2.1]?).map (fun z => z.1)) && Nat.beq len 3
        | none => false) = true := hchk
    rw [hu] at hz
    simp only [Bool.and_eq_true, decide_eq_true_eq, Nat.beq_eq, Nat.ble_eq] at hz
    rw [hz.1.1.1.2] at hop
    exact absurd (show (22 : Nat) = 24 from hop) (by decide)
  case multianewarray i dm =>
    cases hu : xKT[j]? with
    | none =>
      have hz : (match xKT[j]? with
        | some u => decide (u.1 = own) && Nat.beq u.2.1 i && Nat.beq dm 2 && decide (o = (23, 0, 0, 0, [])) && decide (u.2.2 = "[[I") && Nat.beq len 4
        | none => false) = true := hchk
      rw [hu] at hz
      cases hz
    | some u =>
    have hz : (match xKT[j]? with
        | some u => decide (u.1 = own) && Nat.beq u.2.1 i && Nat.beq dm 2 && decide (o = (23, 0, 0, 0, [])) && decide (u.2.2 = "[[I") && Nat.beq len 4
        | none => false) = true := hchk
    rw [hu] at hz
    simp only [Bool.and_eq_true, decide_eq_true_eq, Nat.beq_eq] at hz
    obtain ⟨⟨⟨⟨⟨hu1, hu2⟩, rfl⟩, rfl⟩, hcn⟩, rfl⟩ := hz
    exact absurd (show (23 : Nat) = 24 from hop) (by decide)
  case getstatic i =>
    have hz : (decide (o = (28, 0, 0, 0, [])) && Nat.beq len 3 && decide (own = RX8) && Nat.beq i 310) = true := hchk
    simp only [Bool.and_eq_true, decide_eq_true_eq, Nat.beq_eq] at hz
    obtain ⟨⟨⟨rfl, rfl⟩, hcl⟩, rfl⟩ := hz
    exact absurd (show (28 : Nat) = 24 from hop) (by decide)
  case invokestatic i =>
    by_cases h26 : o.1 = 26
    · rw [h26] at hop; exact absurd hop (by decide)
    have hz : (if o.1 = 26 then decide (o = (26, 0, 0, 0, [])) && Nat.beq len 3 && decide ((own, i) ∈ xCO) else (match xLT[j]? with
        | some u => decide (u.1 = own) && Nat.beq u.2.1 i && Nat.beq u.2.2.2 1 && decide (o = (24, u.2.2.1, o.2.2.1, 1, o.2.2.2.2)) && Nat.beq len 3
        | none => false)) = true := hchk
    rw [if_neg h26] at hz
    cases hu : xLT[j]? with
    | none => rw [hu] at hz; cases hz
    | some u =>
      rw [hu] at hz
      simp only [Bool.and_eq_true, decide_eq_true_eq, Nat.beq_eq] at hz
      obtain ⟨⟨⟨⟨h1, h2⟩, h3⟩, h4⟩, h6⟩ := hz
      refine ⟨u, rfl, h1, by rw [h4], h6, .inr (.inl ⟨by rw [h2], h3, by rw [h4]⟩)⟩
  case invokespecial i =>
    by_cases h27 : o.1 = 27
    · rw [h27] at hop; exact absurd hop (by decide)
    have hz : (if o.1 = 27 then decide (o = (27, 0, 0, 0, [])) && Nat.beq len 3 && decide ((own, i) ∈ xOI) else (match xLT[j]? with
        | some u => decide (u.1 = own) && Nat.beq u.2.1 i && ((Nat.beq u.2.2.2 2 && decide (o = (24, u.2.2.1, o.2.2.1, 2, o.2.2.2.2))) || (Nat.beq u.2.2.2 3 && decide (o = (24, u.2.2.1, o.2.2.1, 3, o.2.2.2.2)))) && Nat.beq len 3
        | none => false)) = true := hchk
    rw [if_neg h27] at hz
    cases hu : xLT[j]? with
    | none => rw [hu] at hz; cases hz
    | some u =>
      rw [hu] at hz
      simp only [Bool.and_eq_true, Bool.or_eq_true, decide_eq_true_eq, Nat.beq_eq] at hz
      obtain ⟨⟨⟨h1, h2⟩, h3⟩, h6⟩ := hz
      rcases h3 with ⟨h3, h4⟩ | ⟨h3, h4⟩
      · refine ⟨u, rfl, h1, by rw [h4], h6, .inr (.inr (.inl ⟨by rw [h2], h3, by rw [h4]⟩))⟩
      · refine ⟨u, rfl, h1, by rw [h4], h6, .inr (.inr (.inr ⟨by rw [h2], h3, by rw [h4]⟩))⟩
  case invokevirtual i =>
    cases hu : xLT[j]? with
    | none =>
      have hz : (match xLT[j]? with
        | some u => decide (u.1 = own) && Nat.beq u.2.1 i && Nat.beq u.2.2.2 0 && decide (o = (24, u.2.2.1, o.2.2.1, 0, o.2.2.2.2)) && decide (((vwCl[o.2.2.2.2.headD 99]?).map (fun z => z.1)) = some (xowny u.2.2.1)) && Nat.beq len 3
        | none => false) = true := hchk
      rw [hu] at hz; cases hz
    | some u =>
      have hz : (match xLT[j]? with
        | some u => decide (u.1 = own) && Nat.beq u.2.1 i && Nat.beq u.2.2.2 0 && decide (o = (24, u.2.2.1, o.2.2.1, 0, o.2.2.2.2)) && decide (((vwCl[o.2.2.2.2.headD 99]?).map (fun z => z.1)) = some (xowny u.2.2.1)) && Nat.beq len 3
        | none => false) = true := hchk
      rw [hu] at hz
      simp only [Bool.and_eq_true, decide_eq_true_eq, Nat.beq_eq] at hz
      obtain ⟨⟨⟨⟨⟨h1, h2⟩, h3⟩, h4⟩, h5⟩, h6⟩ := hz
      refine ⟨u, rfl, h1, by rw [h4], h6, .inl ⟨by rw [h2], h3, by rw [h4], h5⟩⟩
  case return_ =>
    have hz : (decide (o = (25, 0, 0, 0, [])) && Nat.beq len 1) = true := hchk
    simp only [Bool.and_eq_true, decide_eq_true_eq, Nat.beq_eq] at hz
    obtain ⟨rfl, rfl⟩ := hz
    exact absurd (show (25 : Nat) = 24 from hop) (by decide)
  case ireturn =>
    have hz : (decide (o = (25, 1, 0, 0, [])) && Nat.beq len 1) = true := hchk
    simp only [Bool.and_eq_true, decide_eq_true_eq, Nat.beq_eq] at hz
    obtain ⟨rfl, rfl⟩ := hz
    exact absurd (show (25 : Nat) = 24 from hop) (by decide)
  case lreturn =>
    have hz : (decide (o = (25, 2, 0, 0, [])) && Nat.beq len 1) = true := hchk
    simp only [Bool.and_eq_true, decide_eq_true_eq, Nat.beq_eq] at hz
    obtain ⟨rfl, rfl⟩ := hz
    exact absurd (show (25 : Nat) = 24 from hop) (by decide)
  all_goals exact absurd hchk Bool.false_ne_true
