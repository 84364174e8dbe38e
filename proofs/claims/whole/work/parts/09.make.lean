/-! WHAT IS MADE, and the whole step -/
theorem xnew_wf {L : Nat} {xs : Nat → Int32} {g : xG} {t : xD} (hW : xWf L xs g t) {kd n : Nat} (hk : kd ≤ 26) (ho : kd < 20 → kd < 10 ∧ n = xfsz kd) : xWf L xs (xnew g kd n) t := by
  obtain ⟨w1, w2, w3, w4, w5, w6, w7, w8, w9⟩ := hW
  have e0 : ∀ b, b ≠ g.1.1 + 2 → (xnew g kd n).2.1 b = g.2.1 b := fun b hb => if_neg hb
  have e1 : (xnew g kd n).2.1 (g.1.1 + 2) = (kd, n) := if_pos rfl
  refine ⟨fun b hb => ⟨?_, (w1 b (by have : g.1.1 + 1 + 2 ≤ b := hb; omega)).2⟩, by rw [e0 0 (by omega)]; exact w2, by rw [e0 1 (by omega)]; exact w3, fun b => ?_, fun b => ?_, fun b j => ⟨(w6 b j).1, ?_⟩, w7, w8, w9⟩
  · have hb : g.1.1 + 1 + 2 ≤ b := hb
    rw [e0 b (by omega)]
    exact (w1 b (by omega)).1
  · by_cases e : b = g.1.1 + 2
    · subst e
      rw [e1]
      exact fun h _ => ho h
    · rw [e0 b e]; exact w4 b
  · by_cases e : b = g.1.1 + 2
    · subst e
      rw [e1]
      exact hk
    · rw [e0 b e]; exact w5 b
  · by_cases e : b = g.1.1 + 2
    · subst e
      rw [((w1 _ (Nat.le_refl _)).2 j).1]
      exact .inr ⟨by decide, by decide⟩
    · rw [e0 b e]; exact (w6 b j).2
theorem xnew_ce {q : xK} {cA : Nat → ClassId} {g : xG} {t : xD} {kd n : Nat} : ∀ b, b < g.1.1 + 2 → xce q cA (xnew g kd n) t b = xce q cA g t b := fun b hb => xce_same (if_neg (by omega)) (fun _ => rfl) (fun _ => rfl)
section XMAKE
variable {p : Program} {l : Launch} {e : Env} {R : Room} {s : State} {m : MethodId} {args : Array Value} {below : List Frame} {meth : Method} {c : Code} {H : Heap} {locs : List Loc} {cells slots : Nat} {Q : State → Prop}
variable {q : xK} {cA : Nat → ClassId} {D : va_G} {L : Nat} {xs : Nat → Int32} {mi : Nat}
theorem xref_top {g : xG} (hsz : H.size = q.2.2 + g.1.1) : xcv q (2, ((g.1.1 + 2 : Nat) : Int)) = .ref H.size := by
  rw [hsz]
  exact xcv_r q (g.1.1 + 2)
set_option maxHeartbeats 4000000 in
theorem xs_new {cc : ByteArray} {pc ci idx : Nat} {own C : String} {T : u_T} {lsA : Array Slot} {r : List Value} {g : xG} {t : xD} (hx : p.tables.exec = Jvm.exec) (hb : c.code = cc) (hts : ∀ w ∈ xTs, w.before args s = true) (hown : s.vm.findClass own = some m.cls) (hKn : xKn D cA q L xs s s.heap) (hH : xHp q cA D L xs g t s H locs) (hci : ci < 10) (hcl : vwCl[ci]? = some (C, T, xfsz ci)) (hlk : Cond.classLink own idx C ∈ xTs) (hT : ∀ k, k < xfsz ci → (T k).1 = C ∧ (T k).2.2.2 = decide (10 ≤ xfk ci k) ∧ xtyb (xty ci k) (xfk ci k) = true) (hty : ∀ k, k < xfsz ci → parseFieldDescriptor (T k).2.2.1 = some (xty ci k)) (hcells : cells + 1 ≤ R.cells) (hslots : slots + xfsz ci ≤ R.slots) (hdg : decode cc pc = .ok (.new idx, 3))
    (kk : ∀ (H1 : Heap), H1.size = H.size + 1 → xHp q cA D L xs (xnew g ci (xfsz ci)) t s H1 locs → W p l e R s m args below meth c H1 locs (cells + 1) (slots + xfsz ci) Q (F0 m (pc + 3) lsA (xcv q (2, ((g.1.1 + 2 : Nat) : Int)) :: r))) : W p l e R s m args below meth c H locs cells slots Q (F0 m pc lsA r) := by
  obtain ⟨hsz, hP, hS, hW⟩ := hH
  obtain ⟨hK, -⟩ := hKn
  have hin : Cond.instantiable C (xfsz ci) ∈ xTs ∧ Cond.initialized C ∈ xTs := by
    refine ⟨xT_inst (List.mem_flatMap.mpr ⟨_, List.mem_of_getElem? hcl, ?_⟩), xT_inst (List.mem_flatMap.mpr ⟨_, List.mem_of_getElem? hcl, ?_⟩)⟩ <;> simp
  rw [xref_top hsz] at kk
  refine xv_new (fs := (List.range (xfsz ci)).map (fun j => xcv q (xslot (xnew g ci (xfsz ci)) t (g.1.1 + 2) ci j))) hx hb hts (xhin hcl) (xty ci) hty hown (hts _ hlk) (hts _ hin.1) (hts _ hin.2) hK hP hS hcl (fun j hj => ?_) hcells hslots hdg (fun H1 z1 hP1 hS1 => kk H1 z1 ⟨?_, ?_, hS1, xnew_wf hW (by omega) (fun _ => ⟨hci, rfl⟩)⟩)
  · have e1 : vp_V ((List.range (xfsz ci)).map (fun j => xcv q (xslot (xnew g ci (xfsz ci)) t (g.1.1 + 2) ci j))) j = xcv q (xslot (xnew g ci (xfsz ci)) t (g.1.1 + 2) ci j) := by
      unfold vp_V
      rw [List.getD_eq_getElem?_getD, List.getElem?_map, List.getElem?_range hj]
      rfl
    rw [e1]
    have h3 := (hT j hj).2.2
    have ht0 := ((hW.1 (g.1.1 + 2) (Nat.le_refl _)).2 j)
    have hft : xft ci j = if xfk ci j % 10 = 4 then 0 else xfk ci j % 10 := rfl
    unfold xslot
    have hp : (xnew g ci (xfsz ci)).2.2 (g.1.1 + 2) j = -1 := ht0.2
    rw [hp, ht0.1]
    cases hy : xty ci j <;> rw [hy] at h3 <;> first | exact absurd h3 Bool.false_ne_true | skip
    all_goals (simp only [xtyb, Nat.beq_eq] at h3; rw [h3] at hft; simp at hft; rw [hft]; rfl)
  · show H1.size = q.2.2 + (g.1.1 + 1)
    omega
  · have := xws_push (q := q) (cA := cA) (g := g) (g' := xnew g ci (xfsz ci)) (t := t) rfl xnew_ce
    rw [← this, ← hsz]
    have e2 : xce q cA (xnew g ci (xfsz ci)) t (g.1.1 + 2) = .inr (ci, (List.range (xfsz ci)).map (fun j => xcv q (xslot (xnew g ci (xfsz ci)) t (g.1.1 + 2) ci j))) := by
      have e1 : (xnew g ci (xfsz ci)).2.1 (g.1.1 + 2) = (ci, xfsz ci) := if_pos rfl
      unfold xce
      rw [e1, if_pos (by show ci < 20; omega)]
    rw [e2]
    exact hP1
theorem xneg32 {n : Nat} (h : n ≤ 1000) : ¬ Int32.ofInt (Int.ofNat n) < 0 ∧ (Int32.ofInt (Int.ofNat n)).toNatClampNeg = n := by
  have hr : xr32 (Int.ofNat n) := ⟨by have : (0 : Int) ≤ Int.ofNat n := Int.natCast_nonneg n; omega, by have : (Int.ofNat n : Int) = (n : Int) := rfl; omega⟩
  refine ⟨fun z => ?_, by rw [xclamp hr]; rfl⟩
  rw [← x0_32, xlt32 hr ⟨by decide, by decide⟩] at z
  have : (Int.ofNat n : Int) = (n : Int) := rfl
  omega
set_option maxHeartbeats 4000000 in
theorem xs_newa {cc : ByteArray} {pc kd n : Nat} {at_ : ArrayType} {lsA : Array Slot} {r : List Value} {g : xG} {t : xD} (hx : p.tables.exec = Jvm.exec) (hb : c.code = cc) (hts : ∀ w ∈ xTs, w.before args s = true) (hKn : xKn D cA q L xs s s.heap) (hH : xHp q cA D L xs g t s H locs) (hkd : (kd = 20 ∧ at_ = .int) ∨ (kd = 21 ∧ at_ = .long) ∨ (kd = 22 ∧ at_ = .byte)) (hn : n ≤ 1000) (hcells : cells + 1 ≤ R.cells) (hslots : slots + n ≤ R.slots) (hdg : decode cc pc = .ok (.newarray at_, 2))
    (kk : ∀ (H1 : Heap), H1.size = H.size + 1 → xHp q cA D L xs (xnew g kd n) t s H1 locs → W p l e R s m args below meth c H1 locs (cells + 1) (slots + n) Q (F0 m (pc + 2) lsA (xcv q (2, ((g.1.1 + 2 : Nat) : Int)) :: r))) : W p l e R s m args below meth c H locs cells slots Q (F0 m pc lsA (.int (Int32.ofInt (Int.ofNat n)) :: r)) := by
  obtain ⟨hsz, hP, hS, hW⟩ := hH
  obtain ⟨hK, -⟩ := hKn
  rw [xref_top hsz] at kk
  obtain ⟨hn0, hn1⟩ := xneg32 hn
  have e1 : (xnew g kd n).2.1 (g.1.1 + 2) = (kd, n) := if_pos rfl
  have ht0 := fun j => ((hW.1 (g.1.1 + 2) (Nat.le_refl _)).2 j).1
  have fin : kd ≤ 26 → ¬ kd < 20 → ∀ {x : va_E}, xce q cA (xnew g kd n) t (g.1.1 + 2) = x → ∀ H1 : Heap, H1.size = H.size + 1 → va_P D vwCl (xws q cA g t ++ [(H.size, x)]) H1 → va_S (fun a => q.2.2 ≤ a) s.heap H1 locs → W p l e R s m args below meth c H1 locs (cells + 1) (slots + n) Q (F0 m (pc + 2) lsA (.ref H.size :: r)) := by
    intro h26 h20 x hxe H1 z1 hP1 hS1
    refine kk H1 z1 ⟨?_, ?_, hS1, xnew_wf hW h26 (fun z => absurd z h20)⟩
    · show H1.size = q.2.2 + (g.1.1 + 1)
      omega
    · rw [← xws_push (q := q) (cA := cA) (g := g) (g' := xnew g kd n) (t := t) rfl xnew_ce, ← hsz, hxe]
      exact hP1
  rcases hkd with ⟨rfl, rfl⟩ | ⟨rfl, rfl⟩ | ⟨rfl, rfl⟩
  · refine xv_newa (atype := .int) (cA := cA 0) (a0 := (n, .inl (fun _ => 0))) hx hb (hts _ (xT_arr (by decide +kernel))) (hK.2 0 _ (xtys_at (cA := cA) (by decide))).2 hP hS (fun c => by rw [vp_cell_i]; rfl) hn0 hn1 (by show n * 4 ≤ _; omega) hcells hslots hdg (fin (by decide) (by decide) ?_)
    rw [xce_20 (by rw [e1]), e1]
    congr 4
    funext j
    rw [ht0 j]
    rfl
  · refine xv_newa (atype := .long) (cA := cA 1) (a0 := (n, .inr (.inl (fun _ => 0)))) hx hb (hts _ (xT_arr (by decide +kernel))) (hK.2 1 _ (xtys_at (cA := cA) (by decide))).2 hP hS (fun c => by rw [vp_cell_l]; rfl) hn0 hn1 (by show n * 8 ≤ _; omega) hcells hslots hdg (fin (by decide) (by decide) ?_)
    rw [xce_21 (by rw [e1]), e1]
    congr 5
    funext j
    rw [ht0 j]
    rfl
  · refine xv_newa (atype := .byte) (cA := cA 2) (a0 := (n, .inl (fun _ => 0))) hx hb (hts _ (xT_arr (by decide +kernel))) (hK.2 2 _ (xtys_at (cA := cA) (by decide))).2 hP hS (fun c => by rw [vp_cell_i]; rfl) hn0 hn1 (by show n * 1 ≤ _; omega) hcells hslots hdg (fin (by decide) (by decide) ?_)
    rw [xce_22 (by rw [e1]), e1]
    congr 4
    funext j
    rw [ht0 j]
    rfl
set_option maxHeartbeats 4000000 in
theorem xs_newq {cc : ByteArray} {pc kd n idx : Nat} {own C : String} {lsA : Array Slot} {r : List Value} {g : xG} {t : xD} (hx : p.tables.exec = Jvm.exec) (hb : c.code = cc) (hts : ∀ w ∈ xTs, w.before args s = true) (hown : s.vm.findClass own = some m.cls) (hKn : xKn D cA q L xs s s.heap) (hH : xHp q cA D L xs g t s H locs) (hlk : Cond.classLink own idx C ∈ xTs) (hkd : (kd = 23 ∧ C = RX2) ∨ (kd = 24 ∧ C = RX0) ∨ (kd = 25 ∧ C = RX6)) (hn : n ≤ 1000) (hcells : cells + 1 ≤ R.cells) (hslots : slots + n ≤ R.slots) (hdg : decode cc pc = .ok (.anewarray idx, 3))
    (kk : ∀ (H1 : Heap), H1.size = H.size + 1 → xHp q cA D L xs (xnew g kd n) t s H1 locs → W p l e R s m args below meth c H1 locs (cells + 1) (slots + n) Q (F0 m (pc + 3) lsA (xcv q (2, ((g.1.1 + 2 : Nat) : Int)) :: r))) : W p l e R s m args below meth c H locs cells slots Q (F0 m pc lsA (.int (Int32.ofInt (Int.ofNat n)) :: r)) := by
  obtain ⟨hsz, hP, hS, hW⟩ := hH
  obtain ⟨hK, -, -, -, -, -, -, -, o1, o2, o3, -⟩ := hKn
  rw [xref_top hsz] at kk
  obtain ⟨hn0, hn1⟩ := xneg32 hn
  have e1 : (xnew g kd n).2.1 (g.1.1 + 2) = (kd, n) := if_pos rfl
  have ht0 := fun j => ((hW.1 (g.1.1 + 2) (Nat.le_refl _)).2 j).2
  have fin : kd ≤ 26 → 23 ≤ kd → ∀ H1 : Heap, H1.size = H.size + 1 → va_P D vwCl (xws q cA g t ++ [(H.size, .inl (cA (kd - 20), n, .inr (.inr (.inr (.inr (fun _ => none))))))]) H1 → va_S (fun a => q.2.2 ≤ a) s.heap H1 locs → W p l e R s m args below meth c H1 locs (cells + 1) (slots + n) Q (F0 m (pc + 3) lsA (.ref H.size :: r)) := by
    intro h26 h20 H1 z1 hP1 hS1
    refine kk H1 z1 ⟨?_, ?_, hS1, xnew_wf hW h26 (fun z => absurd z (by omega))⟩
    · show H1.size = q.2.2 + (g.1.1 + 1)
      omega
    · have hxe : xce q cA (xnew g kd n) t (g.1.1 + 2) = .inl (cA (kd - 20), n, .inr (.inr (.inr (.inr (fun _ => none))))) := by
        rw [xce_23 (by rw [e1]; exact h20), e1]
        congr 7
        funext j
        show xrf q (g.2.2 (g.1.1 + 2) j) = none
        rw [ht0 j]
        rfl
      rw [← xws_push (q := q) (cA := cA) (g := g) (g' := xnew g kd n) (t := t) rfl xnew_ce, ← hsz, hxe]
      exact hP1
  rcases hkd with ⟨rfl, rfl⟩ | ⟨rfl, rfl⟩ | ⟨rfl, rfl⟩
  · obtain ⟨_, _, _, _, _, hnm⟩ := (hK.2 3 _ (xtys_at (cA := cA) (by decide))).2
    exact xv_newq hx hb hown (hts _ hlk) o1 hnm hP hS hn0 hn1 (by omega) hcells hslots hdg (fin (by decide) (by decide))
  · obtain ⟨_, _, _, _, _, hnm⟩ := (hK.2 4 _ (xtys_at (cA := cA) (by decide))).2
    exact xv_newq hx hb hown (hts _ hlk) o2 hnm hP hS hn0 hn1 (by omega) hcells hslots hdg (fin (by decide) (by decide))
  · obtain ⟨_, _, _, _, _, hnm⟩ := (hK.2 5 _ (xtys_at (cA := cA) (by decide))).2
    exact xv_newq hx hb hown (hts _ hlk) o3 hnm hP hS hn0 hn1 (by omega) hcells hslots hdg (fin (by decide) (by decide))
theorem xnew2_wf {L : Nat} {xs : Nat → Int32} {g : xG} {t : xD} (hW : xWf L xs g t) {n k : Nat} : xWf L xs (xnew2 g n k) t := by
  obtain ⟨w1, w2, w3, w4, w5, w6, w7, w8, w9⟩ := hW
  have e0 : ∀ b, b < g.1.1 + 2 ∨ g.1.1 + 2 + n < b → (xnew2 g n k).2.1 b = g.2.1 b := fun b hb => by
    show (if b = g.1.1 + 2 then (26, n) else if g.1.1 + 2 < b ∧ b ≤ g.1.1 + 2 + n then (20, k) else g.2.1 b) = _
    rw [if_neg (by omega), if_neg (by omega)]
  have e1 : (xnew2 g n k).2.1 (g.1.1 + 2) = (26, n) := if_pos rfl
  have e2 : ∀ b, g.1.1 + 2 < b → b ≤ g.1.1 + 2 + n → (xnew2 g n k).2.1 b = (20, k) := fun b h1 h2 => by
    show (if b = g.1.1 + 2 then (26, n) else if g.1.1 + 2 < b ∧ b ≤ g.1.1 + 2 + n then (20, k) else g.2.1 b) = _
    rw [if_neg (by omega), if_pos ⟨h1, h2⟩]
  have cs : ∀ b, (b < g.1.1 + 2 ∨ g.1.1 + 2 + n < b) ∨ b = g.1.1 + 2 ∨ (g.1.1 + 2 < b ∧ b ≤ g.1.1 + 2 + n) := fun b => by omega
  refine ⟨fun b hb => ?_, by rw [e0 0 (by omega)]; exact w2, by rw [e0 1 (by omega)]; exact w3, fun b => ?_, fun b => ?_, fun b j => ⟨(w6 b j).1, ?_⟩, w7, w8, w9⟩
  · have hb : g.1.1 + 1 + n + 2 ≤ b := hb
    rw [e0 b (by omega)]
    refine ⟨(w1 b (by omega)).1, fun j => ⟨((w1 b (by omega)).2 j).1, ?_⟩⟩
    show (if b = g.1.1 + 2 ∧ j < n then _ else g.2.2 b j) = _
    rw [if_neg (by omega)]
    exact ((w1 b (by omega)).2 j).2
  · rcases cs b with z | rfl | z
    · rw [e0 b z]; exact w4 b
    · rw [e1]; exact fun h => absurd (show 26 < 20 from h) (by decide)
    · rw [e2 b z.1 z.2]; exact fun h => absurd (show 20 < 20 from h) (by decide)
  · rcases cs b with z | rfl | z
    · rw [e0 b z]; exact w5 b
    · rw [e1]; exact Nat.le_refl _
    · rw [e2 b z.1 z.2]; exact (by decide : 20 ≤ 26)
  · rcases cs b with z | rfl | z
    · rw [e0 b z]; exact (w6 b j).2
    · rw [((w1 _ (Nat.le_refl _)).2 j).1]; exact .inr ⟨by decide, by decide⟩
    · rw [((w1 _ (Nat.le_of_lt z.1)).2 j).1]; exact .inr ⟨by decide, by decide⟩
set_option maxHeartbeats 4000000 in
theorem xs_mna {cc : ByteArray} {pc n k idx : Nat} {own : String} {lsA : Array Slot} {r : List Value} {g : xG} {t : xD} (hx : p.tables.exec = Jvm.exec) (hb : c.code = cc) (hts : ∀ w ∈ xTs, w.before args s = true) (hown : s.vm.findClass own = some m.cls) (hKn : xKn D cA q L xs s s.heap) (hH : xHp q cA D L xs g t s H locs) (hlk : Cond.classLink own idx "[[I" ∈ xTs) (hn : n ≤ 1000) (hk : k ≤ 1000) (hcells : cells + (1 + n) ≤ R.cells) (hslots : slots + (n + n * k) ≤ R.slots) (hdg : decode cc pc = .ok (.multianewarray idx 2, 4))
    (kk : ∀ (H1 : Heap), H1.size = H.size + 1 + n → xHp q cA D L xs (xnew2 g n k) t s H1 locs → W p l e R s m args below meth c H1 locs (cells + 1 + n) (slots + n + n * k) Q (F0 m (pc + 4) lsA (xcv q (2, ((g.1.1 + 2 : Nat) : Int)) :: r))) : W p l e R s m args below meth c H locs cells slots Q (F0 m pc lsA (.int (Int32.ofInt (Int.ofNat k)) :: .int (Int32.ofInt (Int.ofNat n)) :: r)) := by
  obtain ⟨hsz, hP, hS, hW⟩ := hH
  obtain ⟨hK, -, -, -, -, -, -, -, -, -, -, o4⟩ := hKn
  rw [xref_top hsz] at kk
  obtain ⟨hn0, hn1⟩ := xneg32 hn
  obtain ⟨hk0, hk1⟩ := xneg32 hk
  have ht0 := fun b (hb : g.1.1 + 2 ≤ b) j => ((hW.1 b hb).2 j)
  refine xv_mna (cA := cA 6) (cI := cA 0) hx hb hown (hts _ hlk) o4 (hts _ (xT_arr (by decide +kernel))) (hK.2 0 _ (xtys_at (cA := cA) (by decide))).2 (hK.2 6 _ (xtys_at (cA := cA) (by decide))).2 hP hS hn0 hk0 hn1 hk1 hn hk hcells hslots hdg (fun H1 z1 hP1 hS1 => kk H1 z1 ⟨?_, ?_, hS1, xnew2_wf hW⟩)
  · show H1.size = q.2.2 + (g.1.1 + 1 + n)
    omega
  · have e : xws q cA (xnew2 g n k) t = (xws q cA g t ++ [(H.size, .inl (cA 6, n, .inr (.inr (.inr (.inr (fun i => if i < n then some (H.size + 1 + i) else none))))))]) ++ (List.range n).map (fun i => (H.size + 1 + i, .inl (cA 0, k, .inl (fun _ => 0)))) := by
      have e26 : xce q cA (xnew2 g n k) t (g.1.1 + 2) = .inl (cA 6, n, .inr (.inr (.inr (.inr (fun i => if i < n then some (H.size + 1 + i) else none))))) := by
        have e1 : (xnew2 g n k).2.1 (g.1.1 + 2) = (26, n) := if_pos rfl
        rw [xce_23 (by rw [e1]; exact (by decide : 23 ≤ 26)), e1]
        congr 7
        funext j
        show xrf q (if g.1.1 + 2 = g.1.1 + 2 ∧ j < n then ((g.1.1 + 3 + j : Nat) : Int) else g.2.2 (g.1.1 + 2) j) = _
        by_cases hj : j < n
        · rw [if_pos ⟨rfl, hj⟩, if_pos hj]
          refine (xrf_nat q (g.1.1 + 3 + j)).trans ?_
          rw [xad2 q (by omega), hsz]
          congr 1
          omega
        · rw [if_neg (fun z => hj z.2), if_neg hj, (ht0 _ (Nat.le_refl _) j).2]
          rfl
      have e20 : ∀ i, i < n → xce q cA (xnew2 g n k) t (g.1.1 + 1 + i + 2) = .inl (cA 0, k, .inl (fun _ => 0)) := fun i hi => by
        have e1 : (xnew2 g n k).2.1 (g.1.1 + 1 + i + 2) = (20, k) := by
          show (if g.1.1 + 1 + i + 2 = g.1.1 + 2 then (26, n) else if g.1.1 + 2 < g.1.1 + 1 + i + 2 ∧ g.1.1 + 1 + i + 2 ≤ g.1.1 + 2 + n then (20, k) else g.2.1 _) = _
          rw [if_neg (by omega), if_pos (by omega)]
        rw [xce_20 (by rw [e1]), e1]
        congr 4
        funext j
        rw [(ht0 _ (by omega) j).1]
        rfl
      have eold : ∀ b, b < g.1.1 + 2 → xce q cA (xnew2 g n k) t b = xce q cA g t b := fun b hb => xce_same (by
        show (if b = g.1.1 + 2 then (26, n) else if g.1.1 + 2 < b ∧ b ≤ g.1.1 + 2 + n then (20, k) else g.2.1 b) = _
        rw [if_neg (by omega), if_neg (by omega)]) (fun _ => rfl) (fun j => by
        show (if b = g.1.1 + 2 ∧ j < n then ((g.1.1 + 3 + j : Nat) : Int) else g.2.2 b j) = _
        rw [if_neg (by omega)])
      apply List.ext_getElem?
      intro i
      by_cases h1 : i < g.1.1
      · rw [xws_at (g := xnew2 g n k) (by show i < g.1.1 + 1 + n; omega), List.append_assoc, List.getElem?_append_left (by rw [xws_len]; exact h1), xws_at h1, eold (i + 2) (by omega)]
      · rw [List.append_assoc, List.getElem?_append_right (by rw [xws_len]; omega), xws_len]
        by_cases h2 : i = g.1.1
        · subst h2
          rw [xws_at (g := xnew2 g n k) (by show g.1.1 < g.1.1 + 1 + n; omega), e26, Nat.sub_self, ← hsz]
          rfl
        · rw [List.getElem?_append_right (by simp; omega)]
          simp only [List.length_singleton]
          by_cases h3 : i < g.1.1 + 1 + n
          · rw [xws_at (g := xnew2 g n k) h3, List.getElem?_map, List.getElem?_range (by omega)]
            have := e20 (i - g.1.1 - 1) (by omega)
            rw [show g.1.1 + 1 + (i - g.1.1 - 1) + 2 = i + 2 by omega] at this
            rw [this]
            show some (q.2.2 + i, _) = some (H.size + 1 + (i - g.1.1 - 1), _)
            rw [hsz, show q.2.2 + g.1.1 + 1 + (i - g.1.1 - 1) = q.2.2 + i by omega]
          · rw [List.getElem?_eq_none (by rw [xws_len]; show g.1.1 + 1 + n ≤ i; omega), List.getElem?_eq_none (by simp; omega)]
    rw [e]
    exact hP1
end XMAKE
