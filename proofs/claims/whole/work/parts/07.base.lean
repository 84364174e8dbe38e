/-! WHAT THE SMALL MACHINE'S STATE IS OF THE REAL ONE -/
/-- addresses: the script, the array KIND_ABOVE, the first cell of the world -/
abbrev xK : Type := Nat × Nat × Nat
def xad (q : xK) : Nat → Nat
  | 0 => q.1
  | 1 => q.2.1
  | a + 2 => q.2.2 + a
def xrf (q : xK) (x : Int) : Option Nat := if x < 0 then none else some (xad q x.toNat)
def xcv (q : xK) (v : xV) : Value := match v.1 with
  | 0 => .int (Int32.ofInt v.2)
  | 1 => .long (Int64.ofInt v.2)
  | 2 => va_rf (xrf q v.2)
  | _ => .null
theorem xcv_i (q : xK) (x : Int) : xcv q (0, x) = .int (Int32.ofInt x) := rfl
theorem xcv_l (q : xK) (x : Int) : xcv q (1, x) = .long (Int64.ofInt x) := rfl
theorem xrf_nat (q : xK) (a : Nat) : xrf q (Int.ofNat a) = some (xad q a) := by
  unfold xrf
  rw [if_neg (by simp)]
  rfl
theorem xcv_r (q : xK) (a : Nat) : xcv q (2, Int.ofNat a) = .ref (xad q a) := by
  show va_rf (xrf q (Int.ofNat a)) = _
  rw [xrf_nat]
  rfl
theorem xcv_cat (q : xK) (v : xV) : (xcv q v).category = xcat v := by
  obtain ⟨k, x⟩ := v
  unfold xcv xcat
  match k with
  | 0 => rfl
  | 1 => rfl
  | 2 =>
    show (va_rf (xrf q x)).category = _
    cases h : xrf q x <;> rfl
  | k + 3 => simp [Value.category]
def xety : Nat → FieldType
  | 0 => .int
  | 1 => .long
  | 2 => .byte
  | 3 => .object RX2
  | 4 => .object RX0
  | 5 => .object RX6
  | _ => .array .int
def xtys (cA : Nat → ClassId) : List (ClassId × FieldType) := [(cA 0, xety 0), (cA 1, xety 1), (cA 2, xety 2), (cA 3, xety 3), (cA 4, xety 4), (cA 5, xety 5), (cA 6, xety 6)]
theorem xtys_at {cA : Nat → ClassId} {k : Nat} (h : k < 7) : (xtys cA)[k]? = some (cA k, xety k) := by
  rcases (by omega : k = 0 ∨ k = 1 ∨ k = 2 ∨ k = 3 ∨ k = 4 ∨ k = 5 ∨ k = 6) with rfl | rfl | rfl | rfl | rfl | rfl | rfl <;> rfl
def xce (q : xK) (cA : Nat → ClassId) (g : xG) (t : xD) (a : Nat) : va_E :=
  if (g.2.1 a).1 < 20 then .inr ((g.2.1 a).1, (List.range (g.2.1 a).2).map (fun j => xcv q (xslot g t a (g.2.1 a).1 j)))
  else if (g.2.1 a).1 = 20 then .inl (cA 0, (g.2.1 a).2, .inl (fun j => Int32.ofInt (t a j)))
  else if (g.2.1 a).1 = 21 then .inl (cA 1, (g.2.1 a).2, .inr (.inl (fun j => Int64.ofInt (t a j))))
  else if (g.2.1 a).1 = 22 then .inl (cA 2, (g.2.1 a).2, .inl (fun j => Int32.ofInt (t a j)))
  else .inl (cA ((g.2.1 a).1 - 20), (g.2.1 a).2, .inr (.inr (.inr (.inr (fun j => xrf q (g.2.2 a j))))))
def xws (q : xK) (cA : Nat → ClassId) (g : xG) (t : xD) : va_W := (List.range g.1.1).map (fun i => (q.2.2 + i, xce q cA g t (i + 2)))
theorem xws_at {q : xK} {cA : Nat → ClassId} {g : xG} {t : xD} {i : Nat} (h : i < g.1.1) : (xws q cA g t)[i]? = some (q.2.2 + i, xce q cA g t (i + 2)) := by
  unfold xws
  rw [List.getElem?_map, List.getElem?_range h]
  rfl
theorem xws_len (q : xK) (cA : Nat → ClassId) (g : xG) (t : xD) : (xws q cA g t).length = g.1.1 := by simp [xws]
theorem xws_inv {q : xK} {cA : Nat → ClassId} {g : xG} {t : xD} {i : Nat} {z : Nat × va_E} (h : (xws q cA g t)[i]? = some z) : i < g.1.1 ∧ z = (q.2.2 + i, xce q cA g t (i + 2)) := by
  have hl : i < (xws q cA g t).length := (List.getElem?_eq_some_iff.mp h).1
  rw [xws_len] at hl
  rw [xws_at hl] at h
  exact ⟨hl, (Option.some.inj h).symm⟩
theorem xws_D (q : xK) (cA : Nat → ClassId) (g : xG) (t : xD) : va_D (fun a => q.2.2 ≤ a) (xws q cA g t) := by
  refine ⟨fun i j x y hi hj e => ?_, fun k x hk => ?_⟩
  · obtain ⟨-, rfl⟩ := xws_inv hi
    obtain ⟨-, rfl⟩ := xws_inv hj
    have : q.2.2 + i = q.2.2 + j := e
    omega
  · obtain ⟨-, rfl⟩ := xws_inv hk
    exact Nat.le_add_right _ _
/-- a change of one cell -/
theorem xws_set {q : xK} {cA : Nat → ClassId} {g g' : xG} {t t' : xD} {a : Nat} (h1 : g'.1.1 = g.1.1) (ho : ∀ b, b ≠ a + 2 → xce q cA g' t' b = xce q cA g t b) : (xws q cA g t).set a (q.2.2 + a, xce q cA g' t' (a + 2)) = xws q cA g' t' := by
  apply List.ext_getElem?
  intro i
  rw [List.getElem?_set]
  by_cases hi : i < g.1.1
  · rw [xws_at (g := g') (t := t') (by rw [h1]; exact hi)]
    by_cases e : a = i
    · subst e
      rw [if_pos rfl, if_pos (by rw [xws_len]; exact hi)]
    · rw [if_neg e, xws_at hi, ho (i + 2) (by omega)]
  · have n1 : (xws q cA g' t')[i]? = none := List.getElem?_eq_none (by rw [xws_len, h1]; omega)
    have n2 : (xws q cA g t)[i]? = none := List.getElem?_eq_none (by rw [xws_len]; omega)
    rw [n1, n2]
    by_cases e : a = i
    · subst e
      rw [if_pos rfl, if_neg (by rw [xws_len]; exact hi)]
    · rw [if_neg e]
/-- a new cell -/
theorem xws_push {q : xK} {cA : Nat → ClassId} {g g' : xG} {t : xD} (h1 : g'.1.1 = g.1.1 + 1) (ho : ∀ b, b < g.1.1 + 2 → xce q cA g' t b = xce q cA g t b) : xws q cA g t ++ [(q.2.2 + g.1.1, xce q cA g' t (g.1.1 + 2))] = xws q cA g' t := by
  unfold xws
  rw [h1, List.range_succ, List.map_append]
  congr 1
  apply List.map_congr_left
  intro i hi
  rw [ho (i + 2) (by have := List.mem_range.mp hi; omega)]
-- ranges
def xr32 (x : Int) : Prop := -2147483648 ≤ x ∧ x < 2147483648
def xr64 (x : Int) : Prop := -9223372036854775808 ≤ x ∧ x < 9223372036854775808
def xokv (v : xV) : Prop := (v.1 = 0 → xr32 v.2) ∧ (v.1 = 1 → xr64 v.2)
theorem xr32_of (x : Int32) : xr32 x.toInt := ⟨Int32.le_toInt x, Int32.toInt_lt x⟩
theorem xr64_of (x : Int64) : xr64 x.toInt := ⟨Int64.le_toInt x, Int64.toInt_lt x⟩
theorem xto32 {x : Int} (h : xr32 x) : (Int32.ofInt x).toInt = x := Int32.toInt_ofInt_of_le h.1 h.2
theorem xto64 {x : Int} (h : xr64 x) : (Int64.ofInt x).toInt = x := Int64.toInt_ofInt_of_le h.1 h.2
theorem xok_i {x : Int} (h : xr32 x) : xokv (0, x) := ⟨fun _ => h, fun e => (by cases e)⟩
theorem xok_l {x : Int} (h : xr64 x) : xokv (1, x) := ⟨fun e => (by cases e), fun _ => h⟩
theorem xok_r (x : Int) : xokv (2, x) := ⟨fun e => (by cases e), fun e => (by cases e)⟩
theorem xok_n (x : Int) : xokv (3, x) := ⟨fun e => (by cases e), fun e => (by cases e)⟩
theorem xclamp {x : Int} (h : xr32 x) : (Int32.ofInt x).toNatClampNeg = x.toNat := by
  show (Int32.ofInt x).toInt.toNat = _
  rw [xto32 h]
theorem xeq32 {x y : Int} (h : xr32 x) (h' : xr32 y) : Int32.ofInt x = Int32.ofInt y ↔ x = y := by
  refine ⟨fun e => ?_, fun e => by rw [e]⟩
  rw [← xto32 h, ← xto32 h', e]
theorem xlt32 {x y : Int} (h : xr32 x) (h' : xr32 y) : Int32.ofInt x < Int32.ofInt y ↔ x < y := by rw [Int32.lt_iff_toInt_lt, xto32 h, xto32 h']
theorem xle32 {x y : Int} (h : xr32 x) (h' : xr32 y) : Int32.ofInt x ≤ Int32.ofInt y ↔ x ≤ y := by rw [Int32.le_iff_toInt_le, xto32 h, xto32 h']
theorem xeq64 {x y : Int} (h : xr64 x) (h' : xr64 y) : Int64.ofInt x = Int64.ofInt y ↔ x = y := by
  refine ⟨fun e => ?_, fun e => by rw [e]⟩
  rw [← xto64 h, ← xto64 h', e]
theorem xlt64 {x y : Int} (h : xr64 x) (h' : xr64 y) : Int64.ofInt x < Int64.ofInt y ↔ x < y := by rw [Int64.lt_iff_toInt_lt, xto64 h, xto64 h']
theorem x0_32 : Int32.ofInt 0 = 0 := by decide
theorem xin32 {x : Int} {n : Nat} (h : xr32 x) (h0 : 0 ≤ x) (hn : x.toNat < n) : vp_in (Int32.ofInt x) n := by
  unfold vp_in
  rw [xclamp h]
  intro e
  rcases e with e | e
  · rw [← x0_32, xlt32 h ⟨by decide, by decide⟩] at e
    omega
  · omega
-- locals
def xas (q : xK) (ls : List xV) : List (Nat × Value) := (ls.zipIdx.filter (fun z => decide (z.1.1 < 3))).map (fun z => (z.2, xcv q z.1))
theorem xas_mem {q : xK} {ls : List xV} {i : Nat} {w : Value} : (i, w) ∈ xas q ls ↔ ∃ v : xV, ls[i]? = some v ∧ v.1 < 3 ∧ w = xcv q v := by
  unfold xas
  rw [List.mem_map]
  constructor
  · rintro ⟨z, hz, he⟩
    obtain ⟨h1, h2⟩ := List.mem_filter.mp hz
    have h3 := List.mem_zipIdx_iff_getElem?.mp h1
    cases he
    exact ⟨z.1, h3, of_decide_eq_true h2, rfl⟩
  · rintro ⟨v, h1, h2, h3⟩
    exact ⟨(v, i), List.mem_filter.mpr ⟨List.mem_zipIdx_iff_getElem?.mpr h1, decide_eq_true h2⟩, by rw [h3]⟩
/-- the locals of the small machine are those of the frame -/
def xLv (q : xK) (lsA : Array Slot) (n : Nat) (ls : List xV) : Prop := lv_has lsA n (xas q ls) ∧ ls.length = n ∧ ∀ v ∈ ls, xokv v
theorem xLv.at {q : xK} {lsA : Array Slot} {n : Nat} {ls : List xV} (h : xLv q lsA n ls) {i : Nat} {v : xV} (hv : ls[i]? = some v) (h3 : v.1 < 3) : lsA[i]? = some (.val (xcv q v)) :=
  h.1.2.2 (i, xcv q v) (xas_mem.mpr ⟨v, hv, h3, rfl⟩)
theorem xLv.ok {q : xK} {lsA : Array Slot} {n : Nat} {ls : List xV} (h : xLv q lsA n ls) {i : Nat} {v : xV} (hv : ls[i]? = some v) : xokv v := h.2.2 v (List.mem_of_getElem? hv)
theorem xset_len : ∀ (ls : List xV) (i : Nat) (v : xV), (xset ls i v).length = ls.length
  | [], _, _ => rfl
  | _ :: r, 0, v => rfl
  | w :: r, i + 1, v => by simp only [xset, List.length_cons, xset_len r i v]
theorem xset_get : ∀ (ls : List xV) (i j : Nat) (v w : xV), (xset ls i v)[j]? = some w → w.1 < 3 → (j = i ∧ w = v) ∨ (j ≠ i ∧ ls[j]? = some w ∧ ¬ (j + 1 = i ∧ w.1 = 1))
  | [], _, _, _, _, h, _ => by simp [xset] at h
  | u :: r, 0, 0, v, w, h, _ => by
    left
    simp only [xset, List.getElem?_cons_zero, Option.some.injEq] at h
    exact ⟨rfl, h.symm⟩
  | u :: r, 0, j + 1, v, w, h, _ => by
    right
    simp only [xset, List.getElem?_cons_succ] at h
    exact ⟨by omega, by simpa using h, by omega⟩
  | u :: r, i + 1, 0, v, w, h, h3 => by
    right
    simp only [xset, List.getElem?_cons_zero, Option.some.injEq] at h
    by_cases c : i = 0 ∧ u.1 = 1
    · rw [if_pos c] at h
      subst h
      exact absurd h3 (by decide)
    · rw [if_neg c] at h
      subst h
      exact ⟨by omega, rfl, fun z => c ⟨by omega, z.2⟩⟩
  | u :: r, i + 1, j + 1, v, w, h, h3 => by
    simp only [xset, List.getElem?_cons_succ] at h
    rcases xset_get r i j v w h h3 with ⟨h1, h2⟩ | ⟨h1, h2, h4⟩
    · left; exact ⟨by omega, h2⟩
    · right; exact ⟨by omega, by simpa using h2, fun z => h4 ⟨by omega, z.2⟩⟩
theorem xset_ok : ∀ (ls : List xV) (i : Nat) (v : xV), (∀ w ∈ ls, xokv w) → xokv v → ∀ w ∈ xset ls i v, xokv w
  | [], _, _, _, _ => fun w h => by simp [xset] at h
  | u :: r, 0, v, h, hv => fun w hw => by
    simp only [xset, List.mem_cons] at hw
    rcases hw with rfl | hw
    · exact hv
    · exact h w (List.mem_cons_of_mem _ hw)
  | u :: r, i + 1, v, h, hv => fun w hw => by
    simp only [xset, List.mem_cons] at hw
    rcases hw with rfl | hw
    · split
      · exact xok_n 0
      · exact h u List.mem_cons_self
    · exact xset_ok r i v (fun z hz => h z (List.mem_cons_of_mem _ hz)) hv w hw
/-- a store of a value of one word -/
theorem xLv.set1 {q : xK} {lsA lsB : Array Slot} {n : Nat} {ls : List xV} (h : xLv q lsA n ls) {i : Nat} {v : xV} (hv : xokv v) (hB : lv_has lsB n ((i, xcv q v) :: (xas q ls).filter (fun z => !(z.1 == i) && !(z.1 + 1 == i && z.2.category == 2)))) : xLv q lsB n (xset ls i v) := by
  refine ⟨⟨hB.1, hB.2.1, fun z hz => ?_⟩, by rw [xset_len]; exact h.2.1, xset_ok ls i v h.2.2 hv⟩
  obtain ⟨j, w⟩ := z
  obtain ⟨u, h1, h2, rfl⟩ := xas_mem.mp hz
  apply hB.2.2
  rcases xset_get ls i j v u h1 h2 with ⟨rfl, rfl⟩ | ⟨h3, h4, h5⟩
  · exact List.mem_cons_self
  · refine List.mem_cons_of_mem _ (List.mem_filter.mpr ⟨xas_mem.mpr ⟨u, h4, h2, rfl⟩, ?_⟩)
    have hc : (xcv q u).category = xcat u := xcv_cat q u
    simp only [hc, Bool.and_eq_true, Bool.not_eq_true', beq_eq_false_iff_ne, ne_eq, Bool.and_eq_false_iff]
    refine ⟨h3, ?_⟩
    by_cases e : j + 1 = i
    · right
      intro e2
      apply h5
      refine ⟨e, ?_⟩
      unfold xcat at e2
      by_cases e3 : u.1 = 1
      · exact e3
      · rw [if_neg e3] at e2; cases e2
    · left; exact e
/-- a store of a long -/
theorem xLv.set2 {q : xK} {lsA lsB : Array Slot} {n : Nat} {ls : List xV} (h : xLv q lsA n ls) {i : Nat} {v : xV} (hv : xokv v) (hB : lv_has lsB n ((i, xcv q v) :: (xas q ls).filter (fun z => !(z.1 == i) && (!(z.1 == i + 1) && !(z.1 + 1 == i && z.2.category == 2))))) : xLv q lsB n (xset (xset ls (i + 1) (3, 0)) i v) := by
  refine ⟨⟨hB.1, hB.2.1, fun z hz => ?_⟩, by rw [xset_len, xset_len]; exact h.2.1, xset_ok _ i v (xset_ok ls _ _ h.2.2 (xok_n 0)) hv⟩
  obtain ⟨j, w⟩ := z
  obtain ⟨u, h1, h2, rfl⟩ := xas_mem.mp hz
  apply hB.2.2
  rcases xset_get _ i j v u h1 h2 with ⟨rfl, rfl⟩ | ⟨h3, h4, h5⟩
  · exact List.mem_cons_self
  · rcases xset_get ls (i + 1) j (3, 0) u h4 h2 with ⟨rfl, rfl⟩ | ⟨h6, h7, h8⟩
    · exact absurd h2 (by decide)
    · refine List.mem_cons_of_mem _ (List.mem_filter.mpr ⟨xas_mem.mpr ⟨u, h7, h2, rfl⟩, ?_⟩)
      have hc : (xcv q u).category = xcat u := xcv_cat q u
      simp only [hc, Bool.and_eq_true, Bool.not_eq_true', beq_eq_false_iff_ne, ne_eq, Bool.and_eq_false_iff]
      refine ⟨h3, h6, ?_⟩
      by_cases e : j + 1 = i
      · right
        intro e2
        apply h5
        refine ⟨e, ?_⟩
        unfold xcat at e2
        by_cases e3 : u.1 = 1
        · exact e3
        · rw [if_neg e3] at e2; cases e2
      · left; exact e
