/-! THE SMALL MACHINE'S RUN is the real one's -/
theorem xml_ok : ∀ mi y, xMT[mi]? = some y → (plainName y.1.cls = true ∨ (200 ≤ mi ∧ mi ≤ 201)) ∧ xml mi = y.2.2.1 ∧ (y.1.cls ≠ "java/lang/invoke/MethodHandle" ∧ y.1.cls ≠ "java/lang/invoke/VarHandle" ∧ (parseMethodDescriptor y.1.desc).map (fun d => d.parameters.length) = some (xnp mi)) ∧ y.2.2.1 ≤ 40 ∧ (xrk mi = 0 → y.2.2.2.1 = none) ∧ (xrk mi = 1 → y.2.2.2.1 = some .int) ∧ (xrk mi = 2 → y.2.2.2.1 = some .long) ∧ (xrk mi = 3 → y.2.2.2.1 = some .boolean) := by
  have h : (List.range 203).all (fun mi => match xMT[mi]? with
    | some y => decide ((plainName y.1.cls = true ∨ (200 ≤ mi ∧ mi ≤ 201)) ∧ xml mi = y.2.2.1 ∧ (y.1.cls ≠ "java/lang/invoke/MethodHandle" ∧ y.1.cls ≠ "java/lang/invoke/VarHandle" ∧ (parseMethodDescriptor y.1.desc).map (fun d => d.parameters.length) = some (xnp mi)) ∧ y.2.2.1 ≤ 40 ∧ (xrk mi = 0 → y.2.2.2.1 = none) ∧ (xrk mi = 1 → y.2.2.2.1 = some .int) ∧ (xrk mi = 2 → y.2.2.2.1 = some .long) ∧ (xrk mi = 3 → y.2.2.2.1 = some .boolean))
    | none => true) = true := by decide +kernel
  intro mi y hy
  have hl : mi < xMT.length := (List.getElem?_eq_some_iff.mp hy).1
  have hlen : xMT.length = 203 := by decide +kernel
  have h1 := List.all_eq_true.mp h mi (List.mem_range.mpr (by omega))
  rw [hy] at h1
  exact of_decide_eq_true h1
theorem xLT_ok : ∀ u ∈ xLT, u.2.2.1 < 202 := by decide +kernel
def xPc (q : xK) (cA : Nat → ClassId) (D : va_G) (L : Nat) (xs : Nat → Int32) (as : List xV) (g : xG) (t : xD) : Array Value → State → Prop := fun v U => v = (as.map (xcv q)).toArray ∧ xKn D cA q L xs U U.heap ∧ U.heap.size = q.2.2 + g.1.1 ∧ va_P D vwCl (xws q cA g t) U.heap ∧ xWf L xs g t ∧ ∀ v ∈ as, xokv v
def xQc (q : xK) (cA : Nat → ClassId) (D : va_G) (L : Nat) (xs : Nat → Int32) (r : Option xV) (g : xG) (t : xD) : Array Value → State → Outcome → State → Prop := fun _ st o u => o = .returned (r.map (xcv q)) ∧ u.heap.size = q.2.2 + g.1.1 ∧ va_P D vwCl (xws q cA g t) u.heap ∧ xWf L xs g t ∧ va_F (fun a => q.2.2 ≤ a) st u ∧ ∀ v, r = some v → xokv v
theorem xKn.moved {q : xK} {cA : Nat → ClassId} {D : va_G} {L : Nat} {xs : Nat → Int32} {u U : State} {H0 H : Heap} (hW : u.WarmedH U.vm) (h : xKn D cA q L xs u H0) (hsz : H0.size ≤ H.size) (hk : ∀ a : Nat, a < H0.size → ¬ q.2.2 ≤ a → H[a]? = H0[a]?) : xKn D cA q L xs U H := by
  obtain ⟨h1, h2, h3, h4, h5, h6, h7, h8, h9, h10, h11, h12⟩ := h
  have hvm := hW.alike
  refine ⟨h1.moved hvm, (h2.kept (hk _ (by omega) (by omega))).moved hvm, (h3.kept (fun a h1 h2 => hk a h1 h2)).moved hvm, (h4.kept (fun a h1 h2 => hk a h1 h2)).moved hvm, h5, h6, by omega, fun w hw => ?_, h9.moved hvm, h10.moved hvm, h11.moved hvm, h12.moved hvm⟩
  have h8 := h8 w hw
  unfold xNs at hw
  obtain ⟨z, hz, he⟩ := List.mem_filterMap.mp hw
  split at he
  · split at he
    · cases he
      exact va_Nw.warmM hW h8
    · cases he
  · cases he
theorem xpop_inv {n : Nat} {st as r : List xV} (h : xpop n st = some (as, r)) : st = as.reverse ++ r ∧ as.length = n := by
  unfold xpop at h
  split at h
  · rename_i hn
    cases h
    refine ⟨by rw [List.reverse_reverse, List.take_append_drop], by simp; omega⟩
  · cases h
theorem xspread_lg (q : xK) : ∀ as : List xV, (lg_sl (as.map (xcv q))).length = (xspread as).length
  | [] => rfl
  | v :: r => by
    have h := xspread_lg q r
    unfold lg_sl at h ⊢
    simp only [List.map_cons, List.flatMap_cons, List.length_append, h, xcv_cat]
    have e2 : xspread (v :: r) = if v.1 = 1 then v :: (3, 0) :: xspread r else v :: xspread r := rfl
    rw [e2]
    unfold xcat
    by_cases e : v.1 = 1
    · simp only [if_pos e]; simp; omega
    · simp only [if_neg e]; simp; omega
theorem xspread_args (q : xK) : ∀ (as : List xV) (k i : Nat) (v : xV), (xspread as)[i]? = some v → v.1 < 3 → (k + i, xcv q v) ∈ lv_args k (as.map (xcv q))
  | [], k, i, v, h, _ => by simp [xspread] at h
  | w :: r, k, i, v, h, h3 => by
    have hc := xcv_cat q w
    unfold xspread at h
    unfold lv_args
    simp only [List.map_cons, hc]
    by_cases e : w.1 = 1
    · rw [if_pos e] at h
      have hcat : xcat w = 2 := by unfold xcat; rw [if_pos e]
      match i, h with
      | 0, h =>
        cases h
        exact List.mem_cons_self
      | 1, h =>
        cases h
        exact absurd h3 (by decide)
      | i + 2, h =>
        have h : (xspread r)[i]? = some v := by simpa using h
        have := xspread_args q r (k + 2) i v h h3
        rw [show k + (i + 2) = k + 2 + i by omega]
        simp only [hcat]
        exact List.mem_cons_of_mem _ this
    · rw [if_neg e] at h
      have hcat : xcat w = 1 := by unfold xcat; rw [if_neg e]
      match i, h with
      | 0, h =>
        cases h
        exact List.mem_cons_self
      | i + 1, h =>
        have h : (xspread r)[i]? = some v := by simpa using h
        have := xspread_args q r (k + 1) i v h h3
        rw [show k + (i + 1) = k + 1 + i by omega]
        simp only [hcat]
        exact List.mem_cons_of_mem _ this
theorem xspread_ok : ∀ as : List xV, (∀ v ∈ as, xokv v) → ∀ v ∈ xspread as, xokv v
  | [], _ => fun v h => by simp [xspread] at h
  | w :: r, h => fun v hv => by
    have ih := xspread_ok r (fun z hz => h z (List.mem_cons_of_mem _ hz))
    unfold xspread at hv
    split at hv
    · rcases List.mem_cons.mp hv with rfl | hv
      · exact h _ List.mem_cons_self
      · rcases List.mem_cons.mp hv with rfl | hv
        · exact xok_n 0
        · exact ih v hv
    · rcases List.mem_cons.mp hv with rfl | hv
      · exact h _ List.mem_cons_self
      · exact ih v hv
theorem xenter_Lv {q : xK} {as : List xV} {n : Nat} (hn : (xspread as).length ≤ n) (hok : ∀ v ∈ as, xokv v) : xLv q ((lg_sl (as.map (xcv q)) ++ List.replicate (n - (lg_sl (as.map (xcv q))).length) Slot.unset).toArray) n (xenter as n) := by
  have h := lv_entry (as.map (xcv q)) (n := n) (by rw [xspread_lg]; exact hn)
  refine ⟨⟨h.1, h.2.1, fun z hz => ?_⟩, by unfold xenter; simp; omega, fun v hv => ?_⟩
  · obtain ⟨i, w⟩ := z
    obtain ⟨v, h1, h2, rfl⟩ := xas_mem.mp hz
    apply h.2.2
    unfold xenter at h1
    by_cases hi : i < (xspread as).length
    · rw [List.getElem?_append_left hi] at h1
      have := xspread_args q as 0 i v h1 h2
      rwa [Nat.zero_add] at this
    · rw [List.getElem?_append_right (by omega)] at h1
      have := List.mem_of_getElem? h1
      rw [List.eq_of_mem_replicate this] at h2
      exact absurd h2 (by decide)
  · unfold xenter at hv
    rcases List.mem_append.mp hv with h | h
    · exact xspread_ok as hok v h
    · rw [List.eq_of_mem_replicate h]; exact xok_n 0
theorem xmath_inv {ih : xF} {d mi pc : Nat} {o : xOp} {ls st : List xV} {g : xG} {t : xD} {w : Option xV × xG × xD} (h : xmath ih d mi pc o ls st g t = some w) : ∃ d', d = d' + 1 ∧ ((o.2.1 = 201 ∧ ∃ y x r, st = (0, y) :: (0, x) :: r ∧ xcats r ≤ 8 ∧ ih (d' + 1) mi (pc + 3) ls ((0, if y < x then y else x) :: r) g t = some w) ∨ (¬ o.2.1 = 201 ∧ ∃ x r, st = (1, x) :: r ∧ xcats r ≤ 8 ∧ ih (d' + 1) mi (pc + 3) ls ((1, if 0 < x then x else xlneg x) :: r) g t = some w)) := by
  unfold xmath at h
  match d, h with
  | 0, h => cases h
  | d + 1, h =>
    refine ⟨d, rfl, ?_⟩
    by_cases e : o.2.1 = 201
    · left
      refine ⟨e, ?_⟩
      simp only [if_pos e] at h
      split at h
      · split at h
        · exact ⟨_, _, _, rfl, by assumption, h⟩
        · cases h
      · cases h
    · right
      refine ⟨e, ?_⟩
      simp only [if_neg e] at h
      split at h
      · split at h
        · exact ⟨_, _, rfl, by assumption, h⟩
        · cases h
      · cases h
theorem xcal_inv {ih : xF} {d mi pc : Nat} {o : xOp} {ls st : List xV} {g : xG} {t : xD} {w : Option xV × xG × xD} (h : xcal ih d mi pc o ls st g t = some w) : ∃ d' as r v g' t', d = d' + 1 ∧ st = as.reverse ++ r ∧ as.length = xnp o.2.1 + (if o.2.2.2.1 = 1 then 0 else 1) ∧ xcats r ≤ 8 ∧ (xspread as).length ≤ xml o.2.1 ∧ xrecvb o.2.2.2.1.toNat (o.2.2.2.2.headD 99) as g = true ∧ ih d' o.2.1 0 (xenter as (xml o.2.1)) [] g t = some (v, g', t') ∧ ih (d' + 1) mi (pc + 3) ls (v.toList ++ r) g' t' = some w := by
  unfold xcal at h
  match d, h with
  | 0, h => cases h
  | d + 1, h =>
    cases hp : xpop (xnp o.2.1 + (if o.2.2.2.1 = 1 then 0 else 1)) st with
    | none => simp only [hp] at h; cases h
    | some ar =>
      obtain ⟨as, r⟩ := ar
      simp only [hp] at h
      by_cases hc : xcats r ≤ 8 ∧ (xspread as).length ≤ xml o.2.1 ∧ xrecvb o.2.2.2.1.toNat (o.2.2.2.2.headD 99) as g = true
      · rw [if_pos hc] at h
        cases hi : ih d o.2.1 0 (xenter as (xml o.2.1)) [] g t with
        | none => simp only [hi] at h; cases h
        | some vgt =>
          obtain ⟨v, g', t'⟩ := vgt
          simp only [hi] at h
          obtain ⟨e1, e2⟩ := xpop_inv hp
          exact ⟨d, as, r, v, g', t', rfl, e1, e2, hc.1, hc.2.1, hc.2.2, hi, h⟩
      · rw [if_neg hc] at h; cases h
theorem xgo_inv {ih : xF} {d mi pc : Nat} {ls st : List xV} {g : xG} {t : xD} {w : Option xV × xG × xD} (h : xgo ih d mi pc ls st g t = some w) : ∃ i len j o, xcode mi pc = some ((i, len, j), o) ∧ ((o.1 = 25 ∧ ∃ r, xret mi o.2.1 st = some r ∧ w = (r, g, t)) ∨ (o.1 = 24 ∧ (200 ≤ o.2.1 ∧ o.2.1 ≤ 201) ∧ xmath ih d mi pc o ls st g t = some w) ∨ (o.1 = 24 ∧ ¬ (200 ≤ o.2.1 ∧ o.2.1 ≤ 201) ∧ xcal ih d mi pc o ls st g t = some w) ∨ (¬ o.1 = 25 ∧ ¬ o.1 = 24 ∧ ∃ z, xstep d mi len o pc ls st g t = some z ∧ ih d mi z.1 z.2.1 z.2.2.1 z.2.2.2.1 z.2.2.2.2 = some w)) := by
  unfold xgo at h
  cases hc : xcode mi pc with
  | none => simp only [hc] at h; cases h
  | some e =>
    obtain ⟨⟨i, len, j⟩, o⟩ := e
    simp only [hc] at h
    refine ⟨i, len, j, o, rfl, ?_⟩
    by_cases h25 : o.1 = 25
    · rw [if_pos h25] at h
      left
      refine ⟨h25, ?_⟩
      cases hr : xret mi o.2.1 st with
      | none => simp only [hr] at h; cases h
      | some r => simp only [hr] at h; exact ⟨r, rfl, (Option.some.inj h).symm⟩
    · rw [if_neg h25] at h
      right
      by_cases h24 : o.1 = 24
      · rw [if_pos h24] at h
        by_cases hm : 200 ≤ o.2.1 ∧ o.2.1 ≤ 201
        · rw [if_pos hm] at h; exact .inl ⟨h24, hm, h⟩
        · rw [if_neg hm] at h; exact .inr (.inl ⟨h24, hm, h⟩)
      · rw [if_neg h24] at h
        right
        right
        refine ⟨h25, h24, ?_⟩
        cases hs : xstep d mi len o pc ls st g t with
        | none => simp only [hs] at h; cases h
        | some z => simp only [hs] at h; exact ⟨z, rfl, h⟩
theorem xrun_mono : ∀ (n d mi pc : Nat) (ls st : List xV) (g : xG) (t : xD) (r : Option xV) (g' : xG) (t' : xD), xrun n d mi pc ls st g t = some (r, g', t') → g.1.1 ≤ g'.1.1 ∧ g.1.2 ≤ g'.1.2
  | 0, _, _, _, _, _, _, _, _, _, _, h => by cases h
  | n + 1, d, mi, pc, ls, st, g, t, r, g', t', h => by
    rw [xrun_succ] at h
    obtain ⟨i, len, j, o, -, hh⟩ := xgo_inv h
    rcases hh with ⟨-, r2, -, e⟩ | ⟨-, -, hm⟩ | ⟨-, -, hcl⟩ | ⟨-, -, z, hs, hi⟩
    · cases e; exact ⟨Nat.le_refl _, Nat.le_refl _⟩
    · obtain ⟨d', -, hx⟩ := xmath_inv hm
      rcases hx with ⟨-, y, x, r3, -, -, hi⟩ | ⟨-, x, r3, -, -, hi⟩
      · exact xrun_mono _ _ _ _ _ _ _ _ _ _ _ hi
      · exact xrun_mono _ _ _ _ _ _ _ _ _ _ _ hi
    · obtain ⟨d', as, r3, v, g1, t1, -, -, -, -, -, -, h1, h2⟩ := xcal_inv hcl
      have h1 := xrun_mono _ _ _ _ _ _ _ _ _ _ _ h1
      have h2 := xrun_mono _ _ _ _ _ _ _ _ _ _ _ h2
      exact ⟨Nat.le_trans h1.1 h2.1, Nat.le_trans h1.2 h2.2⟩
    · have h1 := xstep_mono hs
      have h2 := xrun_mono _ _ _ _ _ _ _ _ _ _ _ hi
      exact ⟨Nat.le_trans h1.1 h2.1, Nat.le_trans h1.2 h2.2⟩
