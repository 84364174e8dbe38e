/-! THE CLAIM OUT OF ONE WALK OF THE LAW'S BODY. Your part is whole_start (and what it stands on); all else here is the same for every law, but numbers. -/
def R_law : String := "NameRevisionsLaw"
def lw_P (b : Addr) (xs : List Int32) (args : Array Value) (s : State) : Prop := args = #[.ref b] ∧ s.IntsAt b xs ∧ xs.length ≤ 3072 ∧ (Jvm.Cond.and given_1 narrow_1).before args s = true
def lw_Q (_ : Array Value) (s : State) (o : Outcome) (t : State) : Prop := o = .returned (some (.int 1)) ∧ Framed s o t [] 600000 7302250
def lw_Z (below : List Frame) (a : Array Value) (s : State) : State → Prop := fun t => ∃ o, t.status = .running ∧ Ended t below o ∧ lw_Q a s o t
/-- the law's own end, with 1 on the stack, nothing written that was there before, its room as the claim has it -/
theorem lw_ret {p : Program} {l : Launch} {e : Env} {s : State} {m : MethodId} {below : List Frame} {meth : Method} {c : Code} {b : Nat} (hx : p.tables.exec = Jvm.exec) (hb : c.code = code) (hr : meth.sig.returnType = ret) (hlocks : meth.locks = false) {pc : Nat} {H : Heap} {ls : Array Slot} (hdg : decode code pc = .ok (.ireturn, 1)) : W p l e room_1 s m #[Value.ref b] below meth c H [] 600000 7302250 (lw_Z below #[Value.ref b] s) (F0 m pc ls [.int 1]) := by
  intro T hT X
  obtain ⟨fs, hret, hrun, hended, hW, hframe⟩ := X.leave (v := some (.int 1)) (hlocks := hlocks) (fun h => by rw [hr] at h; cases h)
  have hmeth' : T.vm.method? m = some meth := X.method'
  refine ⟨T.setFrames fs, ?_, .returned (some (.int 1)), hrun, hended, rfl, ⟨_, rfl⟩, hW, hframe⟩
  jvm_step X.here [X.here.top, hx, hb, hdg, hmeth', hr, ret, narrow_b1]
  (try refine ⟨rfl, ?_⟩); (try refine ⟨rfl, ?_⟩)
  first | (intro acts; rw [hret _ acts rfl rfl rfl]) | rw [hret _ _ rfl rfl rfl]
  exact Steps.refl _
/-- what holds at the law's entry: the machine, the code, the tables' words (any of lw_tbl by 'hts w (by decide +kernel)'), the script of L ints xs at the cell b, what the Statement gives of the start (any of its parts by flat_of_before) -/
def lw_At (p : Program) (s : State) (m : MethodId) (meth : Method) (c : Code) (b L : Nat) (xs : Nat → Int32) : Prop :=
  p.tables.exec = Jvm.exec ∧ c.code = code ∧ meth.sig.returnType = ret ∧ c.maxLocals = 4 ∧ s.vm.findClass R_law = some m.cls ∧ (∀ w ∈ lw_tbl, w.before #[Value.ref b] s = true) ∧ va_X b L xs s s.heap ∧ b < s.heap.size ∧ meth.locks = false ∧ (Jvm.Cond.and given_1 narrow_1).before #[Value.ref b] s = true
-- ===== YOUR PART BEGINS =====
/-! OUT OF A RUN OF THE SMALL MACHINE over the law's bytecode -/
def xg0 (L : Nat) : xG := ((0, 0), (fun a => if a = 0 then (20, L) else if a = 1 then (20, 4) else (0, 0)), fun _ _ => -1)
def xt0 (L : Nat) (xs : Nat → Int32) : xD := fun a j => if a = 0 then (if j < L then (xs j).toInt else 0) else if a = 1 then (if j < 4 then (xkv j).toInt else 0) else 0
theorem xwf0 {L : Nat} {xs : Nat → Int32} (hL : L ≤ 3072) : xWf L xs (xg0 L) (xt0 L xs) := by
  have hsh : ∀ a, (xg0 L).2.1 a = if a = 0 then (20, L) else if a = 1 then (20, 4) else (0, 0) := fun _ => rfl
  refine ⟨fun a ha => ?_, rfl, rfl, fun a h1 h2 => ?_, fun a => ?_, fun a j => ?_, fun j hj => ?_, fun j hj => ?_, hL⟩
  · have ha : 0 + 2 ≤ a := ha
    rw [hsh, if_neg (by omega), if_neg (by omega)]
    refine ⟨rfl, fun j => ⟨?_, rfl⟩⟩
    unfold xt0
    rw [if_neg (by omega), if_neg (by omega)]
  · rw [hsh] at h1 h2
    by_cases e0 : a = 0
    · rw [if_pos e0] at h1; exact absurd (show 20 < 20 from h1) (by decide)
    · rw [if_neg e0] at h1 h2
      by_cases e1 : a = 1
      · rw [if_pos e1] at h1; exact absurd (show 20 < 20 from h1) (by decide)
      · rw [if_neg e1] at h2; exact absurd (show 0 < 0 from h2) (by decide)
  · rw [hsh]
    by_cases e0 : a = 0
    · rw [if_pos e0]; exact (by decide : 20 ≤ 26)
    · rw [if_neg e0]
      by_cases e1 : a = 1
      · rw [if_pos e1]; exact (by decide : 20 ≤ 26)
      · rw [if_neg e1]; exact (by decide : 0 ≤ 26)
  · have h32 : xr32 (xt0 L xs a j) := by
      unfold xt0
      split
      · split
        · exact xr32_of _
        · exact ⟨by decide, by decide⟩
      · split
        · split
          · exact xr32_of _
          · exact ⟨by decide, by decide⟩
        · exact ⟨by decide, by decide⟩
    exact ⟨xr32_mono h32, .inr h32⟩
  · unfold xt0
    rw [if_pos rfl, if_pos hj]
  · unfold xt0
    rw [if_neg (by decide), if_pos rfl, if_pos hj]
theorem xarrOf {s : State} {c : ClassId} {k : Class} {comp : ClassId} {ty : FieldType} (h2 : s.vm.classes[c]? = some k) (h3 : k.kind = .array comp ty) : ArrOfT s c ty := fun _ _ => ⟨fun _ h => (by cases h), k, h2, comp, h3⟩
set_option maxHeartbeats 4000000 in
theorem xKn_start {s : State} {b L : Nat} {xs : Nat → Int32} (hts : ∀ w ∈ lw_tbl, w.before #[Value.ref b] s = true) (hX : va_X b L xs s s.heap) (hbl : b < s.heap.size) (hgv : (Jvm.Cond.and given_1 narrow_1).before #[Value.ref b] s = true) : ∃ (D : va_G) (cA : Nat → ClassId) (k0 : Nat), xKn D cA (b, k0, s.heap.size) L xs s s.heap := by
  have hx : ∀ w ∈ xTs, w.before #[Value.ref b] s = true := fun w hw => hts w (xTs_in w hw)
  -- classes
  have h1 : ∀ k : Nat, ∃ z : ClassId × (Nat → Nat), ∀ q, vwCl[k]? = some q → u_Kn s q.1 q.2.1 q.2.2 z.1 z.2 := by
    intro k
    cases hq : vwCl[k]? with
    | none => exact ⟨(0, fun _ => 0), fun q h => by cases h⟩
    | some q =>
      obtain ⟨C, T, N⟩ := q
      have hi : Cond.instantiable C N ∈ xTs := xT_inst (List.mem_flatMap.mpr ⟨_, List.mem_of_getElem? hq, List.mem_cons_self⟩)
      obtain ⟨cC, iS, hKn⟩ := u_known (C := C) (T := T) (N := N) (n := N) hx (xhin hq) (hx _ hi)
      exact ⟨(cC, iS), fun q h => by cases h; exact hKn⟩
  obtain ⟨f, hf⟩ := Classical.axiomOfChoice h1
  -- arrays
  have ap : ∀ ty, Cond.arrayClass ty ∈ xTs → ∃ c, ArrOfT s c ty ∧ s.vm.findClass ("[" ++ ty.toString) = some c := fun ty h => by
    obtain ⟨c, k, comp, a1, a2, a3⟩ := Cond.arrayClass_spec (hx _ h)
    exact ⟨c, xarrOf a2 a3, a1⟩
  obtain ⟨c0, i0, n0⟩ := ap .int (xT_arr (by decide +kernel))
  obtain ⟨c1, i1, n1⟩ := ap .long (xT_arr (by decide +kernel))
  obtain ⟨c2, i2, n2⟩ := ap .byte (xT_arr (by decide +kernel))
  have ao : ∀ C, va_AO C s → ∃ c, ArrOfT s c (.object C) ∧ va_RA s c (.object C) := fun C h => by
    obtain ⟨comp, c, k, a1, a2, a3, a4, a5⟩ := Cond.arrayOver_spec h
    exact ⟨c, xarrOf a3 a4, k, comp, a3, a4, a1, a5⟩
  have w1 : va_AO RX2 s := va_AO.of (hts (.arrayOver (.object RX2)) (xap_0 (List.mem_of_getElem? (i := 46) (by decide +kernel))))
  have w2 : va_AO RX0 s := va_AO.of (hts (.arrayOver (.object RX0)) (xap_0 (List.mem_of_getElem? (i := 48) (by decide +kernel))))
  have w3 : va_AO RX6 s := va_AO.of (hts (.arrayOver (.object RX6)) (xap_0 (List.mem_of_getElem? (i := 268) (by decide +kernel))))
  have w4 : xAOA s := hts (.arrayOver (.array .int)) (xap_0 (List.mem_of_getElem? (i := 233) (by decide +kernel)))
  obtain ⟨c3, i3, n3⟩ := ao RX2 w1
  obtain ⟨c4, i4, n4⟩ := ao RX0 w2
  obtain ⟨c5, i5, n5⟩ := ao RX6 w3
  obtain ⟨c6, i6, n6⟩ : ∃ c, ArrOfT s c (.array .int) ∧ va_RA s c (.array .int) := by
    obtain ⟨comp, c, k, a1, a2, a3, a4, a5⟩ := arrayOverA_spec w4
    exact ⟨c, xarrOf a3 a4, a5⟩
  -- the static array
  have hs := flat_of_before _ hgv
  have hA : ∀ a : Nat, a < s.heap.size → ¬ (fun a => s.heap.size ≤ a) a := fun a h => Nat.not_le.mpr h
  have hel : ∀ j : Nat, j < 4 → (Term.elem (.static "NameRevisions" "KIND_ABOVE" "[I") (.int (Int32.ofNat j))).eval #[Value.ref b] s none [] s = some (.int (xkv j)) := by
    intro j hj
    rcases (by omega : j = 0 ∨ j = 1 ∨ j = 2 ∨ j = 3) with rfl | rfl | rfl | rfl
    · exact va_eqt (hs (.eq (.elem (.static "NameRevisions" "KIND_ABOVE" "[I") (.int 0)) (.int (-1))) (by decide +kernel))
    · exact va_eqt (hs (.eq (.elem (.static "NameRevisions" "KIND_ABOVE" "[I") (.int 1)) (.int 0)) (by decide +kernel))
    · exact va_eqt (hs (.eq (.elem (.static "NameRevisions" "KIND_ABOVE" "[I") (.int 2)) (.int 0)) (by decide +kernel))
    · exact va_eqt (hs (.eq (.elem (.static "NameRevisions" "KIND_ABOVE" "[I") (.int 3)) (.int 1)) (by decide +kernel))
  obtain ⟨k0, hk0, hT⟩ := va_Tof (N := 4) (f := fun j => .int (xkv j)) (A := fun a => s.heap.size ≤ a) (by decide) (hs (.arrayOf (.static "NameRevisions" "KIND_ABOVE" "[I") .int) (by decide +kernel)) (va_eqt (hs (.eq (.length (.static "NameRevisions" "KIND_ABOVE" "[I")) (.int 4)) (by decide +kernel))) hel hA
  have hZ : va_Z RX8 "KIND_ABOVE" "[I" (.ref k0) (fun a => s.heap.size ≤ a) s s.heap := va_Zref (hts (.laysStatic RX8 "KIND_ABOVE" "[I") (xap_0 (List.mem_of_getElem? (i := 727) (by decide +kernel)))) (hx _ (xT_inst (by decide +kernel))) hk0 hA
  refine ⟨(fun k => (f k).1, fun k => (f k).2), (fun k => match k with
    | 0 => c0
    | 1 => c1
    | 2 => c2
    | 3 => c3
    | 4 => c4
    | 5 => c5
    | _ => c6), k0, ⟨fun k q h => hf k q h, fun k q h => ?_⟩, hX, hT, hZ, hbl, Nat.not_le.mp hT.out, Nat.le_refl _, fun w hw => ?_, w1, w2, w3, w4⟩
  · match k, h with
    | 0, h => cases h; exact ⟨i0, n0⟩
    | 1, h => cases h; exact ⟨i1, n1⟩
    | 2, h => cases h; exact ⟨i2, n2⟩
    | 3, h => cases h; exact ⟨i3, n3⟩
    | 4, h => cases h; exact ⟨i4, n4⟩
    | 5, h => cases h; exact ⟨i5, n5⟩
    | 6, h => cases h; exact ⟨i6, n6⟩
    | k + 7, h => cases h
  · have hn : xNs.all (fun w => decide (w ∈ tables_1)) = true := by decide +kernel
    have hw1 := of_decide_eq_true (List.all_eq_true.mp hn w hw)
    have hb := hts w (xap_0 hw1)
    unfold xNs at hw
    obtain ⟨z, hz, he⟩ := List.mem_filterMap.mp hw
    split at he
    · split at he
      · cases he
        exact va_Nw.of rfl hb
      · cases he
    · cases he
/-- THE LAW'S WALK, out of a run -/
theorem xwhole (hrun : ∀ (L : Nat) (xs : Nat → Int32), L ≤ 3072 → ∃ (n : Nat) (g' : xG) (t' : xD), xrun n 30 202 0 (xenter [(2, ((0 : Nat) : Int))] 4) [] (xg0 L) (xt0 L xs) = some (some (0, 1), g', t') ∧ g'.1.1 ≤ 600000 ∧ g'.1.2 ≤ 7302250)
    {p : Program} {e : Env} {s : State} {m : MethodId} {below : List Frame} {meth : Method} {c : Code} (l : Launch) {b L : Nat} {xs : Nat → Int32} (hL : L ≤ 3072) (C0 : lw_At p s m meth c b L xs) : W p l e room_1 s m #[Value.ref b] below meth c s.heap [] 0 0 (lw_Z below #[Value.ref b] s) (entryFrame m ([Value.ref b] : List Value).toArray 4) := by
  obtain ⟨hx, hb, hr, hml, hown, hts, hX, hbl, hlocks, hgv⟩ := id C0
  obtain ⟨D, cA, k0, hKn⟩ := xKn_start hts hX hbl hgv
  obtain ⟨n, g', t', hn, h1, h2⟩ := hrun L xs hL
  have hlen : xml 202 = 4 := rfl
  have hLv := xenter_Lv (q := (b, k0, s.heap.size)) (as := [(2, ((0 : Nat) : Int))]) (n := 4) (by decide) (fun v hv => by
    rw [List.mem_singleton.mp hv]; exact xok_r _)
  rw [lg_entry_eq]
  have hmono := xrun_mono _ _ _ _ _ _ _ _ _ _ _ hn
  refine xsim (b, k0, s.heap.size) cA D L xs n 30 202 0 _ [] (xg0 L) (xt0 L xs) (some (0, 1)) g' t' hn p l e room_1 s m #[Value.ref b] below meth c s.heap [] 0 0 _ _ ⟨hx, ⟨(yL_law, cL_law, 4, some .boolean, 1385), rfl, hb, hown, fun z => by exact absurd z (by decide)⟩, by rw [hml, hlen], fun w hw => hts w (xTs_in w hw), hKn⟩ hLv (fun v hv => by cases hv) ⟨rfl, fun k q h => by simp [xws, xg0] at h, va_S.rf, xwf0 hL⟩ rfl (by decide) (by decide) ?_ ?_ ?_
  · show 0 + (g'.1.1 - 0) ≤ 600000
    omega
  · show 0 + (g'.1.2 - 0) ≤ 7302250
    omega
  · intro i a pc1 st1 lsB H1 locs1 hdg hia hret hst1 hH1
    rcases xret_inv hret with ⟨ha, rfl, hz, -⟩ | ⟨ha, x, rfl, hz, -⟩ | ⟨ha, x, rfl, hz, -⟩
    · cases hz
    · cases hz
      have hi : i = .ireturn := by
        rcases hia with w | w | w
        · omega
        · exact w.1
        · omega
      subst hi
      refine va_forget (fun q hq => hH1.2.2.1.2.2 q hq) ?_
      refine W.widen (k := 600000) (n := 7302250) (by show 0 + (g'.1.1 - 0) ≤ 600000; omega) (by show 0 + (g'.1.2 - 0) ≤ 7302250; omega) ?_
      exact lw_ret hx hb hr hlocks (by rw [hb] at hdg; exact hdg)
    · cases hz
