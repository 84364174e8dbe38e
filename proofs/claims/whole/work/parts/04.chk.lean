/-! THE TABLES ARE RIGHT: each row of xcode is what the class file's bytes decode to, and what it is linked to -/
/-- the class of what a row of references holds -/
def xrowc (kd : Nat) : Nat := match kd with
  | 23 => 2
  | 24 => 0
  | 25 => 6
  | _ => 99
def xowny (mi : Nat) : String := match xMT[mi]? with
  | some q => q.1.cls
  | none => ""
def xCO : List (String × Nat) := [(RX0, 35), (RX1, 29), (RX3, 70), (RX4, 31), (RX8, 298)]
def xOI : List (String × Nat) := [(RX8, 3), (RX7, 3), (RX5, 3), (RX4, 3), (RX2, 3), (RX1, 3), (RX0, 3), (RX3, 3), (RX6, 3), (RX9, 3)]
/-- what op a row must have, by its instruction -/
def xchk (own : String) (mi pc : Nat) (e : xE) : Bool := match e.1.1 with
  | .iconst n => decide (e.2 = (0, 0, 0, n, [])) && Nat.beq e.1.2.1 1 && decide ((-1 : Int) ≤ n) && decide (n ≤ 5)
  | .bipush n => decide (e.2 = (0, 0, 0, n, [])) && Nat.beq e.1.2.1 2 && decide ((-128 : Int) ≤ n) && decide (n ≤ 127)
  | .sipush n => decide (e.2 = (0, 0, 0, n, [])) && Nat.beq e.1.2.1 3 && decide ((-32768 : Int) ≤ n) && decide (n ≤ 32767)
  | .lconst n => decide (e.2 = (0, 1, 0, ((n : Nat) : Int), [])) && Nat.beq e.1.2.1 1
  | .ldc_w i => (match xCT[e.1.2.2]? with
    | some q => decide (q.1 = own) && Nat.beq q.2.1 i && decide (e.2 = (0, 0, 0, q.2.2.1, [])) && !q.2.2.2 && Nat.beq e.1.2.1 3 && decide ((-2147483648 : Int) ≤ q.2.2.1) && decide (q.2.2.1 < 2147483648)
    | none => false)
  | .ldc2_w i => (match xCT[e.1.2.2]? with
    | some q => decide (q.1 = own) && Nat.beq q.2.1 i && decide (e.2 = (0, 1, 0, q.2.2.1, [])) && q.2.2.2 && Nat.beq e.1.2.1 3 && decide ((-9223372036854775808 : Int) ≤ q.2.2.1) && decide (q.2.2.1 < 9223372036854775808)
    | none => false)
  | .iload_n k => decide (e.2 = (1, (k : Nat), 0, 0, [])) && Nat.beq e.1.2.1 1
  | .iload k => decide (e.2 = (1, k, 0, 0, [])) && Nat.beq e.1.2.1 2
  | .lload_n k => decide (e.2 = (1, (k : Nat), 1, 0, [])) && Nat.beq e.1.2.1 1
  | .lload k => decide (e.2 = (1, k, 1, 0, [])) && Nat.beq e.1.2.1 2
  | .aload_n k => decide (e.2 = (1, (k : Nat), 2, 0, [])) && Nat.beq e.1.2.1 1
  | .aload k => decide (e.2 = (1, k, 2, 0, [])) && Nat.beq e.1.2.1 2
  | .istore_n k => decide (e.2 = (2, (k : Nat), 0, 0, [])) && Nat.beq e.1.2.1 1
  | .istore k => decide (e.2 = (2, k, 0, 0, [])) && Nat.beq e.1.2.1 2
  | .lstore_n k => decide (e.2 = (2, (k : Nat), 1, 0, [])) && Nat.beq e.1.2.1 1
  | .lstore k => decide (e.2 = (2, k, 1, 0, [])) && Nat.beq e.1.2.1 2
  | .astore_n k => decide (e.2 = (2, (k : Nat), 2, 0, [])) && Nat.beq e.1.2.1 1
  | .astore k => decide (e.2 = (2, k, 2, 0, [])) && Nat.beq e.1.2.1 2
  | .iinc k n => decide (e.2 = (3, k, 0, n, [])) && Nat.beq e.1.2.1 3
  | .iadd => decide (e.2 = (4, 0, 0, 0, [])) && Nat.beq e.1.2.1 1
  | .isub => decide (e.2 = (4, 1, 0, 0, [])) && Nat.beq e.1.2.1 1
  | .imul => decide (e.2 = (4, 2, 0, 0, [])) && Nat.beq e.1.2.1 1
  | .iand => decide (e.2 = (4, 3, 0, 0, [])) && Nat.beq e.1.2.1 1
  | .ior => decide (e.2 = (4, 4, 0, 0, [])) && Nat.beq e.1.2.1 1
  | .ixor => decide (e.2 = (4, 5, 0, 0, [])) && Nat.beq e.1.2.1 1
  | .ishl => decide (e.2 = (4, 6, 0, 0, [])) && Nat.beq e.1.2.1 1
  | .ishr => decide (e.2 = (4, 7, 0, 0, [])) && Nat.beq e.1.2.1 1
  | .iushr => decide (e.2 = (4, 8, 0, 0, [])) && Nat.beq e.1.2.1 1
  | .idiv => decide (e.2 = (4, 9, 0, 0, [])) && Nat.beq e.1.2.1 1
  | .irem => decide (e.2 = (4, 10, 0, 0, [])) && Nat.beq e.1.2.1 1
  | .i2l => decide (e.2 = (5, 0, 0, 0, [])) && Nat.beq e.1.2.1 1
  | .l2i => decide (e.2 = (5, 1, 0, 0, [])) && Nat.beq e.1.2.1 1
  | .i2b => decide (e.2 = (5, 2, 0, 0, [])) && Nat.beq e.1.2.1 1
  | .i2s => decide (e.2 = (5, 3, 0, 0, [])) && Nat.beq e.1.2.1 1
  | .lneg => decide (e.2 = (5, 4, 0, 0, [])) && Nat.beq e.1.2.1 1
  | .ladd => decide (e.2 = (6, 0, 0, 0, [])) && Nat.beq e.1.2.1 1
  | .land => decide (e.2 = (6, 1, 0, 0, [])) && Nat.beq e.1.2.1 1
  | .lor => decide (e.2 = (6, 2, 0, 0, [])) && Nat.beq e.1.2.1 1
  | .ldiv => decide (e.2 = (6, 4, 0, 0, [])) && Nat.beq e.1.2.1 1
  | .lrem => decide (e.2 = (6, 5, 0, 0, [])) && Nat.beq e.1.2.1 1
  | .lshl => decide (e.2 = (6, 6, 0, 0, [])) && Nat.beq e.1.2.1 1
  | .lushr => decide (e.2 = (6, 7, 0, 0, [])) && Nat.beq e.1.2.1 1
  | .lcmp => decide (e.2 = (6, 8, 0, 0, [])) && Nat.beq e.1.2.1 1
  | .ifCond .eq off => decide (e.2 = (7, 0, e.2.2.2.1, 0, [])) && Nat.beq e.1.2.1 3 && decide ((pc : Int) + off = (e.2.2.2.1 : Int))
  | .ifCond .ne off => decide (e.2 = (7, 1, e.2.2.2.1, 0, [])) && Nat.beq e.1.2.1 3 && decide ((pc : Int) + off = (e.2.2.2.1 : Int))
  | .ifCond .lt off => decide (e.2 = (7, 2, e.2.2.2.1, 0, [])) && Nat.beq e.1.2.1 3 && decide ((pc : Int) + off = (e.2.2.2.1 : Int))
  | .ifCond .ge off => decide (e.2 = (7, 3, e.2.2.2.1, 0, [])) && Nat.beq e.1.2.1 3 && decide ((pc : Int) + off = (e.2.2.2.1 : Int))
  | .ifCond .gt off => decide (e.2 = (7, 4, e.2.2.2.1, 0, [])) && Nat.beq e.1.2.1 3 && decide ((pc : Int) + off = (e.2.2.2.1 : Int))
  | .ifCond .le off => decide (e.2 = (7, 5, e.2.2.2.1, 0, [])) && Nat.beq e.1.2.1 3 && decide ((pc : Int) + off = (e.2.2.2.1 : Int))
  | .if_icmp .eq off => decide (e.2 = (8, 0, e.2.2.2.1, 0, [])) && Nat.beq e.1.2.1 3 && decide ((pc : Int) + off = (e.2.2.2.1 : Int))
  | .if_icmp .ne off => decide (e.2 = (8, 1, e.2.2.2.1, 0, [])) && Nat.beq e.1.2.1 3 && decide ((pc : Int) + off = (e.2.2.2.1 : Int))
  | .if_icmp .lt off => decide (e.2 = (8, 2, e.2.2.2.1, 0, [])) && Nat.beq e.1.2.1 3 && decide ((pc : Int) + off = (e.2.2.2.1 : Int))
  | .if_icmp .ge off => decide (e.2 = (8, 3, e.2.2.2.1, 0, [])) && Nat.beq e.1.2.1 3 && decide ((pc : Int) + off = (e.2.2.2.1 : Int))
  | .if_icmp .gt off => decide (e.2 = (8, 4, e.2.2.2.1, 0, [])) && Nat.beq e.1.2.1 3 && decide ((pc : Int) + off = (e.2.2.2.1 : Int))
  | .if_icmp .le off => decide (e.2 = (8, 5, e.2.2.2.1, 0, [])) && Nat.beq e.1.2.1 3 && decide ((pc : Int) + off = (e.2.2.2.1 : Int))
  | .goto off => decide (e.2 = (9, e.2.2.1, 0, 0, [])) && Nat.beq e.1.2.1 3 && decide ((pc : Int) + off = (e.2.2.1 : Int))
  | .tableswitch dflt lo hi offs => decide (e.2 = (10, e.2.2.1, 0, lo, e.2.2.2.2.2)) && decide ((pc : Int) + dflt = (e.2.2.1 : Int)) && decide (hi + 1 = lo + (e.2.2.2.2.2.length : Int)) && decide (e.2.2.2.2.2.map (fun (z : Nat) => (z : Int)) = offs.toList.map (fun z => (pc : Int) + z))
  | .dup => decide (e.2 = (11, 0, 0, 0, [])) && Nat.beq e.1.2.1 1
  | .pop => decide (e.2 = (12, 0, 0, 0, [])) && Nat.beq e.1.2.1 1
  | .dup_x1 => decide (e.2 = (13, 0, 0, 0, [])) && Nat.beq e.1.2.1 1
  | .dup2 => decide (e.2 = (14, 0, 0, 0, [])) && Nat.beq e.1.2.1 1
  | .getfield i => (match xFT[e.1.2.2]? with
    | some q => decide (q.1 = own) && Nat.beq q.2.1 i && decide (e.2 = (15, q.2.2.1, q.2.2.2, 0, [])) && Nat.beq e.1.2.1 3
    | none => false)
  | .putfield i => (match xFT[e.1.2.2]? with
    | some q => decide (q.1 = own) && Nat.beq q.2.1 i && decide (e.2 = (16, q.2.2.1, q.2.2.2, 0, [])) && Nat.beq e.1.2.1 3
    | none => false)
  | .iaload => decide (e.2 = (17, 20, 0, 0, [])) && Nat.beq e.1.2.1 1
  | .laload => decide (e.2 = (17, 21, 0, 0, [])) && Nat.beq e.1.2.1 1
  | .baload => decide (e.2 = (17, 22, 0, 0, [])) && Nat.beq e.1.2.1 1
  | .aaload => decide (e.2 = (17, 23, 0, 0, [])) && Nat.beq e.1.2.1 1
  | .iastore => decide (e.2 = (18, 20, 0, 0, [])) && Nat.beq e.1.2.1 1
  | .lastore => decide (e.2 = (18, 21, 0, 0, [])) && Nat.beq e.1.2.1 1
  | .bastore => decide (e.2 = (18, 22, 0, 0, [])) && Nat.beq e.1.2.1 1
  | .aastore => decide (e.2 = (18, 23, 0, 0, [])) && Nat.beq e.1.2.1 1
  | .arraylength => decide (e.2 = (19, 0, 0, 0, [])) && Nat.beq e.1.2.1 1
  | .new i => (match xKT[e.1.2.2]? with
    | some q => decide (q.1 = own) && Nat.beq q.2.1 i && decide (e.2 = (20, e.2.2.1, 0, 0, [])) && decide (some q.2.2 = (vwCl[e.2.2.1]?).map (fun z => z.1)) && Nat.beq e.1.2.1 3
    | none => false)
  | .newarray .int => decide (e.2 = (21, 20, 0, 0, [])) && Nat.beq e.1.2.1 2
  | .newarray .long => decide (e.2 = (21, 21, 0, 0, [])) && Nat.beq e.1.2.1 2
  | .newarray .byte => decide (e.2 = (21, 22, 0, 0, [])) && Nat.beq e.1.2.1 2
  | .anewarray i => (match xKT[e.1.2.2]? with
    | some q => decide (q.1 = own) && Nat.beq q.2.1 i && decide (e.2 = (22, e.2.2.1, 0, 0, [])) && Nat.ble 23 e.2.2.1 && decide (some q.2.2 = (vwCl[xrowc e.2.2.1]?).map (fun z => z.1)) && Nat.beq e.1.2.1 3
    | none => false)
  | .multianewarray i n => (match xKT[e.1.2.2]? with
    | some q => decide (q.1 = own) && Nat.beq q.2.1 i && Nat.beq n 2 && decide (e.2 = (23, 0, 0, 0, [])) && decide (q.2.2 = "[[I") && Nat.beq e.1.2.1 4
    | none => false)
  | .invokevirtual i => (match xLT[e.1.2.2]? with
    | some q => decide (q.1 = own) && Nat.beq q.2.1 i && Nat.beq q.2.2.2 0 && decide (e.2 = (24, q.2.2.1, e.2.2.2.1, 0, e.2.2.2.2.2)) && decide (((vwCl[e.2.2.2.2.2.headD 99]?).map (fun z => z.1)) = some (xowny q.2.2.1)) && Nat.beq e.1.2.1 3
    | none => false)
  | .invokestatic i => if e.2.1 = 26 then decide (e.2 = (26, 0, 0, 0, [])) && Nat.beq e.1.2.1 3 && decide ((own, i) ∈ xCO) else (match xLT[e.1.2.2]? with
    | some q => decide (q.1 = own) && Nat.beq q.2.1 i && Nat.beq q.2.2.2 1 && decide (e.2 = (24, q.2.2.1, e.2.2.2.1, 1, e.2.2.2.2.2)) && Nat.beq e.1.2.1 3
    | none => false)
  | .invokespecial i => if e.2.1 = 27 then decide (e.2 = (27, 0, 0, 0, [])) && Nat.beq e.1.2.1 3 && decide ((own, i) ∈ xOI) else (match xLT[e.1.2.2]? with
    | some q => decide (q.1 = own) && Nat.beq q.2.1 i && ((Nat.beq q.2.2.2 2 && decide (e.2 = (24, q.2.2.1, e.2.2.2.1, 2, e.2.2.2.2.2))) || (Nat.beq q.2.2.2 3 && decide (e.2 = (24, q.2.2.1, e.2.2.2.1, 3, e.2.2.2.2.2)))) && Nat.beq e.1.2.1 3
    | none => false)
  | .return_ => decide (e.2 = (25, 0, 0, 0, [])) && Nat.beq e.1.2.1 1
  | .ireturn => decide (e.2 = (25, 1, 0, 0, [])) && Nat.beq e.1.2.1 1
  | .lreturn => decide (e.2 = (25, 2, 0, 0, [])) && Nat.beq e.1.2.1 1
  | .getstatic i => decide (e.2 = (28, 0, 0, 0, [])) && Nat.beq e.1.2.1 3 && decide (own = RX8) && Nat.beq i 310
  | _ => false
def xokp (mi pc : Nat) : Bool := match xMT[mi]? with
  | some q => (match xcode mi pc with
      | none => true
      | some e => decide (decode q.2.1 pc = .ok (e.1.1, e.1.2.1)) && xchk q.1.cls mi pc e)
  | none => false
def xokh (mi : Nat) : Bool := match xMT[mi]? with
  | some q => Nat.beq (xml mi) q.2.2.1 && (xbl mi == decide (q.2.2.2.1 = some .boolean)) && (xin mi == decide (q.1.name = "<init>"))
  | none => false
def xokm (mi : Nat) : Bool := (List.range (xlen mi)).all (xokp mi)
def xokr (mi a n : Nat) : Bool := (List.range n).all (fun i => xokp mi (i + a))
theorem xokh_all : (List.range 203).all xokh = true := by decide +kernel
theorem xok_0 : ((List.range 10).map (fun i => i + 0)).all xokm = true := by decide +kernel
theorem xok_10 : ((List.range 10).map (fun i => i + 10)).all xokm = true := by decide +kernel
theorem xok_20 : ((List.range 10).map (fun i => i + 20)).all xokm = true := by decide +kernel
theorem xok_30 : ((List.range 10).map (fun i => i + 30)).all xokm = true := by decide +kernel
theorem xok_40 : ((List.range 10).map (fun i => i + 40)).all xokm = true := by decide +kernel
theorem xok_50 : ((List.range 10).map (fun i => i + 50)).all xokm = true := by decide +kernel
theorem xok_60 : ((List.range 10).map (fun i => i + 60)).all xokm = true := by decide +kernel
theorem xok_70 : ((List.range 10).map (fun i => i + 70)).all xokm = true := by decide +kernel
theorem xok_80 : ((List.range 10).map (fun i => i + 80)).all xokm = true := by decide +kernel
theorem xok_90 : ((List.range 10).map (fun i => i + 90)).all xokm = true := by decide +kernel
theorem xok_100 : ((List.range 10).map (fun i => i + 100)).all xokm = true := by decide +kernel
theorem xok_110 : ((List.range 10).map (fun i => i + 110)).all xokm = true := by decide +kernel
theorem xok_120 : ((List.range 10).map (fun i => i + 120)).all xokm = true := by decide +kernel
theorem xok_130 : ((List.range 10).map (fun i => i + 130)).all xokm = true := by decide +kernel
theorem xok_140 : ((List.range 10).map (fun i => i + 140)).all xokm = true := by decide +kernel
theorem xok_150 : ((List.range 10).map (fun i => i + 150)).all xokm = true := by decide +kernel
theorem xok_160 : ((List.range 10).map (fun i => i + 160)).all xokm = true := by decide +kernel
theorem xok_170 : ((List.range 10).map (fun i => i + 170)).all xokm = true := by decide +kernel
theorem xok_180 : ((List.range 10).map (fun i => i + 180)).all xokm = true := by decide +kernel
theorem xok_190 : ((List.range 10).map (fun i => i + 190)).all xokm = true := by decide +kernel
theorem xok_200 : ((List.range 2).map (fun i => i + 200)).all xokm = true := by decide +kernel
theorem xokl_0 : xokr 202 0 50 = true := by decide +kernel
theorem xokl_50 : xokr 202 50 50 = true := by decide +kernel
theorem xokl_100 : xokr 202 100 50 = true := by decide +kernel
theorem xokl_150 : xokr 202 150 50 = true := by decide +kernel
theorem xokl_200 : xokr 202 200 50 = true := by decide +kernel
theorem xokl_250 : xokr 202 250 50 = true := by decide +kernel
theorem xokl_300 : xokr 202 300 50 = true := by decide +kernel
theorem xokl_350 : xokr 202 350 50 = true := by decide +kernel
theorem xokl_400 : xokr 202 400 50 = true := by decide +kernel
theorem xokl_450 : xokr 202 450 50 = true := by decide +kernel
theorem xokl_500 : xokr 202 500 50 = true := by decide +kernel
theorem xokl_550 : xokr 202 550 50 = true := by decide +kernel
theorem xokl_600 : xokr 202 600 50 = true := by decide +kernel
theorem xokl_650 : xokr 202 650 50 = true := by decide +kernel
theorem xokl_700 : xokr 202 700 50 = true := by decide +kernel
theorem xokl_750 : xokr 202 750 50 = true := by decide +kernel
theorem xokl_800 : xokr 202 800 50 = true := by decide +kernel
theorem xokl_850 : xokr 202 850 50 = true := by decide +kernel
theorem xokl_900 : xokr 202 900 50 = true := by decide +kernel
theorem xokl_950 : xokr 202 950 50 = true := by decide +kernel
theorem xokl_1000 : xokr 202 1000 50 = true := by decide +kernel
theorem xokl_1050 : xokr 202 1050 50 = true := by decide +kernel
theorem xokl_1100 : xokr 202 1100 50 = true := by decide +kernel
theorem xokl_1150 : xokr 202 1150 50 = true := by decide +kernel
theorem xokl_1200 : xokr 202 1200 50 = true := by decide +kernel
theorem xokl_1250 : xokr 202 1250 50 = true := by decide +kernel
theorem xokl_1300 : xokr 202 1300 50 = true := by decide +kernel
theorem xokl_1350 : xokr 202 1350 35 = true := by decide +kernel
theorem xok_go {mi n a : Nat} (hall : ((List.range n).map (fun i => i + a)).all xokm = true) (h1 : a ≤ mi) (h2 : mi < a + n) : ∀ pc, pc < xlen mi → xokp mi pc = true := by
  intro pc hpc
  exact List.all_eq_true.mp (List.all_eq_true.mp hall mi (List.mem_map.mpr ⟨mi - a, List.mem_range.mpr (by omega), by omega⟩)) pc (List.mem_range.mpr hpc)
theorem xok_gr {mi n a pc : Nat} (hall : xokr mi a n = true) (h1 : a ≤ pc) (h2 : pc < a + n) : xokp mi pc = true := by
  have h := List.all_eq_true.mp hall (pc - a) (List.mem_range.mpr (by omega))
  rwa [show pc - a + a = pc by omega] at h
theorem xok_all : ∀ mi, mi < 203 → ∀ pc, pc < xlen mi → xokp mi pc = true := by
  intro mi h
  rcases Nat.lt_or_ge mi 202 with hl | hl
  · clear h
    rcases Nat.lt_or_ge mi 100 with q100 | q100
    · rcases Nat.lt_or_ge mi 50 with q50 | q50
      · rcases Nat.lt_or_ge mi 20 with q20 | q20
        · rcases Nat.lt_or_ge mi 10 with q10 | q10
          · exact xok_go xok_0 (by omega) (by omega)
          · exact xok_go xok_10 (by omega) (by omega)
        · rcases Nat.lt_or_ge mi 30 with q30 | q30
          · exact xok_go xok_20 (by omega) (by omega)
          · rcases Nat.lt_or_ge mi 40 with q40 | q40
            · exact xok_go xok_30 (by omega) (by omega)
            · exact xok_go xok_40 (by omega) (by omega)
      · rcases Nat.lt_or_ge mi 70 with q70 | q70
        · rcases Nat.lt_or_ge mi 60 with q60 | q60
          · exact xok_go xok_50 (by omega) (by omega)
          · exact xok_go xok_60 (by omega) (by omega)
        · rcases Nat.lt_or_ge mi 80 with q80 | q80
          · exact xok_go xok_70 (by omega) (by omega)
          · rcases Nat.lt_or_ge mi 90 with q90 | q90
            · exact xok_go xok_80 (by omega) (by omega)
            · exact xok_go xok_90 (by omega) (by omega)
    · rcases Nat.lt_or_ge mi 150 with q150 | q150
      · rcases Nat.lt_or_ge mi 120 with q120 | q120
        · rcases Nat.lt_or_ge mi 110 with q110 | q110
          · exact xok_go xok_100 (by omega) (by omega)
          · exact xok_go xok_110 (by omega) (by omega)
        · rcases Nat.lt_or_ge mi 130 with q130 | q130
          · exact xok_go xok_120 (by omega) (by omega)
          · rcases Nat.lt_or_ge mi 140 with q140 | q140
            · exact xok_go xok_130 (by omega) (by omega)
            · exact xok_go xok_140 (by omega) (by omega)
      · rcases Nat.lt_or_ge mi 180 with q180 | q180
        · rcases Nat.lt_or_ge mi 160 with q160 | q160
          · exact xok_go xok_150 (by omega) (by omega)
          · rcases Nat.lt_or_ge mi 170 with q170 | q170
            · exact xok_go xok_160 (by omega) (by omega)
            · exact xok_go xok_170 (by omega) (by omega)
        · rcases Nat.lt_or_ge mi 190 with q190 | q190
          · exact xok_go xok_180 (by omega) (by omega)
          · rcases Nat.lt_or_ge mi 200 with q200 | q200
            · exact xok_go xok_190 (by omega) (by omega)
            · exact xok_go xok_200 (by omega) (by omega)
  · have e : mi = 202 := by omega
    subst e
    intro pc hpc
    have hpc : pc < 1385 := hpc
    rcases Nat.lt_or_ge pc 700 with q700 | q700
    · rcases Nat.lt_or_ge pc 350 with q350 | q350
      · rcases Nat.lt_or_ge pc 150 with q150 | q150
        · rcases Nat.lt_or_ge pc 50 with q50 | q50
          · exact xok_gr xokl_0 (by omega) (by omega)
          · rcases Nat.lt_or_ge pc 100 with q100 | q100
            · exact xok_gr xokl_50 (by omega) (by omega)
            · exact xok_gr xokl_100 (by omega) (by omega)
        · rcases Nat.lt_or_ge pc 250 with q250 | q250
          · rcases Nat.lt_or_ge pc 200 with q200 | q200
            · exact xok_gr xokl_150 (by omega) (by omega)
            · exact xok_gr xokl_200 (by omega) (by omega)
          · rcases Nat.lt_or_ge pc 300 with q300 | q300
            · exact xok_gr xokl_250 (by omega) (by omega)
            · exact xok_gr xokl_300 (by omega) (by omega)
      · rcases Nat.lt_or_ge pc 500 with q500 | q500
        · rcases Nat.lt_or_ge pc 400 with q400 | q400
          · exact xok_gr xokl_350 (by omega) (by omega)
          · rcases Nat.lt_or_ge pc 450 with q450 | q450
            · exact xok_gr xokl_400 (by omega) (by omega)
            · exact xok_gr xokl_450 (by omega) (by omega)
        · rcases Nat.lt_or_ge pc 600 with q600 | q600
          · rcases Nat.lt_or_ge pc 550 with q550 | q550
            · exact xok_gr xokl_500 (by omega) (by omega)
            · exact xok_gr xokl_550 (by omega) (by omega)
          · rcases Nat.lt_or_ge pc 650 with q650 | q650
            · exact xok_gr xokl_600 (by omega) (by omega)
            · exact xok_gr xokl_650 (by omega) (by omega)
    · rcases Nat.lt_or_ge pc 1050 with q1050 | q1050
      · rcases Nat.lt_or_ge pc 850 with q850 | q850
        · rcases Nat.lt_or_ge pc 750 with q750 | q750
          · exact xok_gr xokl_700 (by omega) (by omega)
          · rcases Nat.lt_or_ge pc 800 with q800 | q800
            · exact xok_gr xokl_750 (by omega) (by omega)
            · exact xok_gr xokl_800 (by omega) (by omega)
        · rcases Nat.lt_or_ge pc 950 with q950 | q950
          · rcases Nat.lt_or_ge pc 900 with q900 | q900
            · exact xok_gr xokl_850 (by omega) (by omega)
            · exact xok_gr xokl_900 (by omega) (by omega)
          · rcases Nat.lt_or_ge pc 1000 with q1000 | q1000
            · exact xok_gr xokl_950 (by omega) (by omega)
            · exact xok_gr xokl_1000 (by omega) (by omega)
      · rcases Nat.lt_or_ge pc 1200 with q1200 | q1200
        · rcases Nat.lt_or_ge pc 1100 with q1100 | q1100
          · exact xok_gr xokl_1050 (by omega) (by omega)
          · rcases Nat.lt_or_ge pc 1150 with q1150 | q1150
            · exact xok_gr xokl_1100 (by omega) (by omega)
            · exact xok_gr xokl_1150 (by omega) (by omega)
        · rcases Nat.lt_or_ge pc 1300 with q1300 | q1300
          · rcases Nat.lt_or_ge pc 1250 with q1250 | q1250
            · exact xok_gr xokl_1200 (by omega) (by omega)
            · exact xok_gr xokl_1250 (by omega) (by omega)
          · rcases Nat.lt_or_ge pc 1350 with q1350 | q1350
            · exact xok_gr xokl_1300 (by omega) (by omega)
            · exact xok_gr xokl_1350 (by omega) (by omega)
/-- what a row of xcode says -/
theorem xcode_ok {mi pc : Nat} {e : xE} (h : xcode mi pc = some e) : ∃ q, xMT[mi]? = some q ∧ decode q.2.1 pc = .ok (e.1.1, e.1.2.1) ∧ xchk q.1.cls mi pc e = true ∧ xml mi = q.2.2.1 ∧ xbl mi = decide (q.2.2.2.1 = some .boolean) ∧ xin mi = decide (q.1.name = "<init>") := by
  have h1 : mi < 203 ∧ pc < xlen mi := by
    unfold xcode at h
    cases hc : (Nat.blt mi 203 && Nat.blt pc (xlen mi)) with
    | false => rw [hc] at h; cases h
    | true =>
      simp only [Bool.and_eq_true] at hc
      exact ⟨Nat.blt_eq.mp hc.1, Nat.blt_eq.mp hc.2⟩
  have h2 := xok_all mi h1.1 pc h1.2
  have h4 := List.all_eq_true.mp xokh_all mi (List.mem_range.mpr h1.1)
  unfold xokp at h2
  unfold xokh at h4
  cases hq : xMT[mi]? with
  | none => rw [hq] at h2; cases h2
  | some q =>
    rw [hq] at h2 h4
    simp only [Bool.and_eq_true, beq_iff_eq, Nat.beq_eq] at h4
    obtain ⟨⟨hb, hc⟩, hd⟩ := h4
    simp only [h, Bool.and_eq_true, decide_eq_true_eq] at h2
    exact ⟨q, rfl, h2.1, h2.2, by first | exact hb | exact Nat.eq_of_beq_eq_true hb, hc, hd⟩
