/-! A STEP of the small machine is one of the real one -/
def xkv : Nat → Int32
  | 0 => -1
  | 1 => 0
  | 2 => 0
  | _ => 1
def xNs : List Cond := xLT.filterMap (fun z => if z.2.2.2 = 3 then (match xMT[z.2.2.1]? with
  | some y => some (.methodLinkNest z.1 z.2.1 y.1 RX8)
  | none => none) else none)
/-- what the tables know, and what nobody writes -/
def xKn (D : va_G) (cA : Nat → ClassId) (q : xK) (L : Nat) (xs : Nat → Int32) (U : State) (H : Heap) : Prop :=
  va_K D vwCl (xtys cA) U ∧ va_X q.1 L xs U H ∧ va_T .int q.2.1 4 (fun j => .int (xkv j)) (fun a => q.2.2 ≤ a) U H ∧ va_Z RX8 "KIND_ABOVE" "[I" (.ref q.2.1) (fun a => q.2.2 ≤ a) U H ∧ q.1 < q.2.2 ∧ q.2.1 < q.2.2 ∧ q.2.2 ≤ H.size ∧ (∀ w ∈ xNs, va_Nw w U) ∧ va_AO RX2 U ∧ va_AO RX0 U ∧ va_AO RX6 U ∧ xAOA U
/-- the memory is well made -/
def xWf (L : Nat) (xs : Nat → Int32) (g : xG) (t : xD) : Prop :=
  (∀ a, g.1.1 + 2 ≤ a → g.2.1 a = (0, 0) ∧ ∀ j, t a j = 0 ∧ g.2.2 a j = -1) ∧ g.2.1 0 = (20, L) ∧ g.2.1 1 = (20, 4) ∧
  (∀ a, (g.2.1 a).1 < 20 → 0 < (g.2.1 a).2 → (g.2.1 a).1 < 10 ∧ (g.2.1 a).2 = xfsz (g.2.1 a).1) ∧ (∀ a, (g.2.1 a).1 ≤ 26) ∧
  (∀ a j, xr64 (t a j) ∧ (((g.2.1 a).1 = 21 ∨ ((g.2.1 a).1 < 20 ∧ xft (g.2.1 a).1 j = 1)) ∨ xr32 (t a j))) ∧ (∀ j, j < L → t 0 j = (xs j).toInt) ∧ (∀ j, j < 4 → t 1 j = (xkv j).toInt) ∧ L ≤ 3072
def xHp (q : xK) (cA : Nat → ClassId) (D : va_G) (L : Nat) (xs : Nat → Int32) (g : xG) (t : xD) (s : State) (H : Heap) (locs : List Loc) : Prop :=
  H.size = q.2.2 + g.1.1 ∧ va_P D vwCl (xws q cA g t) H ∧ va_S (fun a => q.2.2 ≤ a) s.heap H locs ∧ xWf L xs g t
def xCx (p : Program) (s : State) (m : MethodId) (args : Array Value) (meth : Method) (c : Code) (mi : Nat) (D : va_G) (cA : Nat → ClassId) (q : xK) (L : Nat) (xs : Nat → Int32) : Prop :=
  p.tables.exec = Jvm.exec ∧ (∃ z, xMT[mi]? = some z ∧ c.code = z.2.1 ∧ s.vm.findClass z.1.cls = some m.cls ∧ (z.1.name = "<init>" → meth.name = "<init>")) ∧ c.maxLocals = xml mi ∧ (∀ w ∈ xTs, w.before args s = true) ∧ xKn D cA q L xs s s.heap
def xty (ci : Nat) : Nat → FieldType := match ci with
  | 0 => tyX0
  | 1 => tyX1
  | 2 => tyX2
  | 3 => tyX3
  | 4 => tyX4
  | 5 => tyX5
  | 6 => tyX6
  | 7 => tyX7
  | 8 => tyX8
  | _ => tyX9
def xtyb (ty : FieldType) (k : Nat) : Bool := match ty with
  | .int => Nat.beq (k % 10) 0
  | .long => Nat.beq (k % 10) 1
  | .boolean => Nat.beq (k % 10) 4
  | .object _ => Nat.beq (k % 10) 2
  | .array _ => Nat.beq (k % 10) 2
  | _ => false
/-- the classes, by their numbers -/
theorem xcls {ci : Nat} (h : ci < 10) : ∃ (C : String) (T : u_T), vwCl[ci]? = some (C, T, xfsz ci) ∧ (∀ k, k < xfsz ci → parseFieldDescriptor (T k).2.2.1 = some (xty ci k)) ∧ (∀ a, a < xfsz ci → ∀ b, b < xfsz ci → a ≠ b → (T a).2.1 ≠ (T b).2.1) ∧ (∀ k, k < xfsz ci → (T k).1 = C ∧ (T k).2.2.2 = decide (10 ≤ xfk ci k) ∧ xtyb (xty ci k) (xfk ci k) = true) := by
  rcases (by omega : ci = 0 ∨ ci = 1 ∨ ci = 2 ∨ ci = 3 ∨ ci = 4 ∨ ci = 5 ∨ ci = 6 ∨ ci = 7 ∨ ci = 8 ∨ ci = 9) with rfl | rfl | rfl | rfl | rfl | rfl | rfl | rfl | rfl | rfl
  · exact ⟨RX0, TX0, rfl, tyX0_ok, nmX0, by decide +kernel⟩
  · exact ⟨RX1, TX1, rfl, tyX1_ok, nmX1, by decide +kernel⟩
  · exact ⟨RX2, TX2, rfl, tyX2_ok, nmX2, by decide +kernel⟩
  · exact ⟨RX3, TX3, rfl, tyX3_ok, nmX3, by decide +kernel⟩
  · exact ⟨RX4, TX4, rfl, tyX4_ok, nmX4, by decide +kernel⟩
  · exact ⟨RX5, TX5, rfl, tyX5_ok, nmX5, by decide +kernel⟩
  · exact ⟨RX6, TX6, rfl, tyX6_ok, nmX6, by decide +kernel⟩
  · exact ⟨RX7, TX7, rfl, tyX7_ok, nmX7, by decide +kernel⟩
  · exact ⟨RX8, TX8, rfl, tyX8_ok, nmX8, by decide +kernel⟩
  · exact ⟨RX9, TX9, rfl, tyX9_ok, nmX9, by decide +kernel⟩
theorem xft_ok : ∀ z ∈ xFT, z.2.2.1 < 10 ∧ z.2.2.2 < xfsz z.2.2.1 := by decide +kernel
theorem xhin {ci : Nat} {C : String} {T : u_T} {N : Nat} (h : vwCl[ci]? = some (C, T, N)) : ∀ w ∈ u_ws C T N, w ∈ xTs := fun _ hw => xT_lay (List.mem_flatMap.mpr ⟨_, List.mem_of_getElem? h, hw⟩)
theorem xlink {j : Nat} {z : String × Nat × Nat × Nat} {C : String} {T : u_T} {N : Nat} (h : xFT[j]? = some z) (hc : vwCl[z.2.2.1]? = some (C, T, N)) : Cond.fieldLink z.1 z.2.1 C (T z.2.2.2).2.1 (T z.2.2.2).2.2.1 ∈ xTs := by
  refine xT_field (List.mem_flatMap.mpr ⟨z, List.mem_of_getElem? h, ?_⟩)
  unfold xwf
  rw [hc]
  exact List.mem_singleton.mpr rfl
theorem xobj_in {L : Nat} {xs : Nat → Int32} {g : xG} {t : xD} (hW : xWf L xs g t) {a ci k : Nat} (hci : ci < 10) (h : xobj g a ci k) : 2 ≤ a ∧ a - 2 < g.1.1 ∧ k < xfsz ci ∧ (g.2.1 a).2 = xfsz ci := by
  obtain ⟨w1, w2, w3, w4, -⟩ := hW
  have h0 : a ≠ 0 := fun e => by
    have h9 := h.1
    rw [e, w2] at h9
    have h9 : 20 = ci := h9
    omega
  have h1 : a ≠ 1 := fun e => by
    have h9 := h.1
    rw [e, w3] at h9
    have h9 : 20 = ci := h9
    omega
  have h4 := w4 a (by rw [h.1]; omega) (by have := h.2; omega)
  have h5 : a < g.1.1 + 2 := by
    rcases Nat.lt_or_ge a (g.1.1 + 2) with z | z
    · exact z
    · have h9 := h.2
      rw [(w1 a z).1] at h9
      exact absurd h9 (Nat.not_lt_zero _)
  rw [h.1] at h4
  exact ⟨by omega, by omega, by have := h.2; rw [h4.2] at this; exact this, h4.2⟩
theorem xarr_in {L : Nat} {xs : Nat → Int32} {g : xG} {t : xD} (hW : xWf L xs g t) {a : Nat} (ha : 2 ≤ a) (h : 0 < (g.2.1 a).2) : a - 2 < g.1.1 := by
  rcases Nat.lt_or_ge a (g.1.1 + 2) with z | z
  · omega
  · rw [(hW.1 a z).1] at h
    exact absurd h (Nat.lt_irrefl _)
theorem xce_obj {q : xK} {cA : Nat → ClassId} {g : xG} {t : xD} {a ci k : Nat} (hci : ci < 10) (h : xobj g a ci k) : xce q cA g t a = .inr (ci, (List.range (g.2.1 a).2).map (fun j => xcv q (xslot g t a ci j))) := by
  unfold xce
  rw [if_pos (by rw [h.1]; omega), h.1]
theorem xce_same {q : xK} {cA : Nat → ClassId} {g g' : xG} {t t' : xD} {b : Nat} (h1 : g'.2.1 b = g.2.1 b) (h2 : ∀ j, t' b j = t b j) (h3 : ∀ j, g'.2.2 b j = g.2.2 b j) : xce q cA g' t' b = xce q cA g t b := by
  unfold xce xslot
  simp only [h1, h2, h3]
theorem xad2 (q : xK) {a : Nat} (h : 2 ≤ a) : xad q a = q.2.2 + (a - 2) := by
  obtain ⟨k, rfl⟩ := Nat.exists_eq_add_of_le h
  rw [show 2 + k = k + 2 by omega]
  rfl
theorem xslot_ok {L : Nat} {xs : Nat → Int32} {g : xG} {t : xD} (hW : xWf L xs g t) {a ci k : Nat} (hci : ci < 10) (h : xobj g a ci k) : xokv (xslot g t a ci k) := by
  obtain ⟨-, -, -, -, -, w6, -⟩ := hW
  unfold xslot
  by_cases e : xft ci k = 2
  · rw [if_pos e]; exact xok_r _
  · rw [if_neg e]
    refine ⟨fun e0 => ?_, fun e1 => (w6 a k).1⟩
    rcases (w6 a k).2 with z | z
    · rcases z with z | z
      · rw [h.1] at z; omega
      · rw [h.1] at z
        have e0 : xft ci k = 0 := e0
        rw [e0] at z
        exact absurd z.2 (by decide)
    · exact z
theorem xset_map {α β : Type} (f : Nat → β) (n k : Nat) (v : β) : ((List.range n).map f).set k v = (List.range n).map (fun j => if j = k then v else f j) := by
  apply List.ext_getElem?
  intro i
  rw [List.getElem?_set, List.getElem?_map, List.getElem?_map]
  by_cases hi : i < n
  · rw [List.getElem?_range hi]
    by_cases e : k = i
    · subst e
      rw [if_pos rfl, if_pos (by simpa using hi)]
      simp
    · rw [if_neg e]
      simp [Ne.symm e]
  · have : (List.range n)[i]? = none := List.getElem?_eq_none (by simp; omega)
    rw [this]
    by_cases e : k = i
    · subst e
      rw [if_pos rfl, if_neg (by simpa using hi)]
      rfl
    · rw [if_neg e]; rfl
theorem xcondb_iff (k : Nat) (x y : Int) : xcondb k x y = true ↔ xcond k x y := by
  unfold xcondb xcond
  split <;> simp
theorem xr32_mono {x : Int} (h : xr32 x) : xr64 x := ⟨by have := h.1; omega, by have := h.2; omega⟩
theorem xok_cond {v : xV} {x : Int} (h : xokv v) (e : v.1 = 0) : xr32 v.2 := h.1 e
theorem xtyb_m {ty : FieldType} {kk : Nat} (h : xtyb ty kk = true) : kk % 10 = 0 ∨ kk % 10 = 1 ∨ kk % 10 = 2 ∨ kk % 10 = 4 := by
  cases ty
  case int => exact .inl (Nat.eq_of_beq_eq_true h)
  case long => exact .inr (.inl (Nat.eq_of_beq_eq_true h))
  case boolean => exact .inr (.inr (.inr (Nat.eq_of_beq_eq_true h)))
  case object => exact .inr (.inr (.inl (Nat.eq_of_beq_eq_true h)))
  case array => exact .inr (.inr (.inl (Nat.eq_of_beq_eq_true h)))
  all_goals exact absurd h Bool.false_ne_true
theorem xnf {ty : FieldType} {kk : Nat} {q : xK} {v : xV} (h : xtyb ty kk = true) (hv : v.1 = (if kk % 10 = 4 then 0 else kk % 10)) (hz : kk % 10 = 4 → v.2 = 0 ∨ v.2 = 1) : narrow ty (xcv q v) = xcv q v ∧ fits ty (xcv q v) = true := by
  obtain ⟨tg, x⟩ := v
  have hv : tg = (if kk % 10 = 4 then 0 else kk % 10) := hv
  have hz : kk % 10 = 4 → x = 0 ∨ x = 1 := hz
  cases ty
  case int =>
    have h : kk % 10 = 0 := Nat.eq_of_beq_eq_true h
    rw [h] at hv
    have hv : tg = 0 := hv
    subst hv
    exact ⟨rfl, rfl⟩
  case long =>
    have h : kk % 10 = 1 := Nat.eq_of_beq_eq_true h
    rw [h] at hv
    have hv : tg = 1 := hv
    subst hv
    exact ⟨rfl, rfl⟩
  case boolean =>
    have h : kk % 10 = 4 := Nat.eq_of_beq_eq_true h
    rw [h] at hv
    have hv : tg = 0 := hv
    subst hv
    rcases hz h with rfl | rfl
    · show narrow .boolean (.int (Int32.ofInt 0)) = Value.int (Int32.ofInt 0) ∧ fits .boolean (.int (Int32.ofInt 0)) = true
      exact ⟨by decide +kernel, by decide +kernel⟩
    · show narrow .boolean (.int (Int32.ofInt 1)) = Value.int (Int32.ofInt 1) ∧ fits .boolean (.int (Int32.ofInt 1)) = true
      exact ⟨by decide +kernel, by decide +kernel⟩
  case object n =>
    have h : kk % 10 = 2 := Nat.eq_of_beq_eq_true h
    rw [h] at hv
    have hv : tg = 2 := hv
    subst hv
    show narrow _ (va_rf (xrf q x)) = va_rf (xrf q x) ∧ fits _ (va_rf (xrf q x)) = true
    cases xrf q x <;> exact ⟨rfl, rfl⟩
  case array n =>
    have h : kk % 10 = 2 := Nat.eq_of_beq_eq_true h
    rw [h] at hv
    have hv : tg = 2 := hv
    subst hv
    show narrow _ (va_rf (xrf q x)) = va_rf (xrf q x) ∧ fits _ (va_rf (xrf q x)) = true
    cases xrf q x <;> exact ⟨rfl, rfl⟩
  all_goals exact absurd h Bool.false_ne_true
theorem xS_here {A : Nat → Prop} {H0 H : Heap} {locs : List Loc} (h : va_S A H0 H locs) : va_S A H H locs := ⟨Nat.le_refl _, fun _ _ _ => rfl, h.2.2⟩
theorem xS_up {A : Nat → Prop} {H0 H H1 : Heap} {locs locs1 : List Loc} (h : va_S A H0 H locs) (h1 : va_S A H H1 locs1) : va_S A H0 H1 locs1 := ⟨Nat.le_trans h.1 h1.1, fun q g1 g2 => (h1.2.1 q (Nat.lt_of_lt_of_le g1 h.1) g2).trans (h.2.1 q g1 g2), h1.2.2⟩
section XSTEP
variable {p : Program} {l : Launch} {e : Env} {R : Room} {s : State} {m : MethodId} {args : Array Value} {below : List Frame} {meth : Method} {c : Code} {H : Heap} {locs : List Loc} {cells slots : Nat} {Q : State → Prop}
variable {q : xK} {cA : Nat → ClassId} {D : va_G} {L : Nat} {xs : Nat → Int32} {mi : Nat}
theorem xW_le {g : JFrame} (k : H.size ≤ s.heap.size + cells → W p l e R s m args below meth c H locs cells slots Q g) : W p l e R s m args below meth c H locs cells slots Q g := fun T hT X => k (by rw [← hT]; exact X.same.2.2.1) T hT X
set_option maxHeartbeats 4000000 in
theorem xs_getf {cc : ByteArray} {pc ci k a idx : Nat} {own C : String} {T : u_T} {lsA : Array Slot} {r : List Value} {g : xG} {t : xD} (hx : p.tables.exec = Jvm.exec) (hb : c.code = cc) (hts : ∀ w ∈ xTs, w.before args s = true) (hown : s.vm.findClass own = some m.cls) (hK : va_K D vwCl (xtys cA) s) (hH : xHp q cA D L xs g t s H locs) (hci : ci < 10) (hcl : vwCl[ci]? = some (C, T, xfsz ci)) (hlk : Cond.fieldLink own idx C (T k).2.1 (T k).2.2.1 ∈ xTs) (hT1 : (T k).1 = C) (ho : xobj g a ci k) (hdg : decode cc pc = .ok (.getfield idx, 3))
    (kk : W p l e R s m args below meth c H locs cells slots Q (F0 m (pc + 3) lsA (xcv q (xslot g t a ci k) :: r))) : W p l e R s m args below meth c H locs cells slots Q (F0 m pc lsA (.ref (xad q a) :: r)) := by
  obtain ⟨hsz, hP, hS, hW⟩ := hH
  obtain ⟨ha, hlt, hk, hN⟩ := xobj_in hW hci ho
  have he := xws_at (q := q) (cA := cA) (g := g) (t := t) hlt
  rw [show a - 2 + 2 = a by omega, xce_obj hci ho, ← xad2 q ha] at he
  exact va_get hx hb hts (xhin hcl) hown hK hP (a - 2) he hcl k hk (hts _ hlk) (fun x hx => by rw [← hT1]; exact hx) (by rw [List.getElem?_map, List.getElem?_range ho.2]; rfl) hdg kk
theorem xput_wf {L : Nat} {xs : Nat → Int32} {g : xG} {t : xD} (hW : xWf L xs g t) {a k : Nat} {x : Int} (ha : 2 ≤ a) (hlt : a < g.1.1 + 2) (h64 : xr64 x) (h32 : ((g.2.1 a).1 = 21 ∨ ((g.2.1 a).1 < 20 ∧ xft (g.2.1 a).1 k = 1)) ∨ xr32 x) : xWf L xs g (xupd t a k x) := by
  obtain ⟨w1, w2, w3, w4, w5, w6, w7, w8, w9⟩ := hW
  refine ⟨fun b hb => ⟨(w1 b hb).1, fun j => ⟨?_, ((w1 b hb).2 j).2⟩⟩, w2, w3, w4, w5, fun b j => ?_, fun j hj => ?_, fun j hj => ?_, w9⟩
  · rw [xupd_ne (by omega)]
    exact ((w1 b hb).2 j).1
  · by_cases e : b = a ∧ j = k
    · obtain ⟨rfl, rfl⟩ := e
      rw [xupd_eq]
      exact ⟨h64, h32⟩
    · rw [xupd_ne e]; exact w6 b j
  · rw [xupd_ne (by omega)]; exact w7 j hj
  · rw [xupd_ne (by omega)]; exact w8 j hj
theorem xptr_wf {L : Nat} {xs : Nat → Int32} {g : xG} {t : xD} (hW : xWf L xs g t) {a k : Nat} {x : Int} (hlt : a < g.1.1 + 2) : xWf L xs (xptr g a k x) t := by
  obtain ⟨w1, w2, w3, w4, w5, w6, w7, w8, w9⟩ := hW
  refine ⟨fun b hb => ⟨(w1 b hb).1, fun j => ⟨((w1 b hb).2 j).1, ?_⟩⟩, w2, w3, w4, w5, w6, w7, w8, w9⟩
  show xupd g.2.2 a k x b j = -1
  have hb : g.1.1 + 2 ≤ b := hb
  rw [xupd_ne (by omega)]
  exact ((w1 b hb).2 j).2
set_option maxHeartbeats 4000000 in
theorem xs_putf {cc : ByteArray} {pc ci k a idx : Nat} {own C : String} {T : u_T} {lsA : Array Slot} {r : List Value} {g : xG} {t : xD} {v : xV} {z : xG × xD} (hx : p.tables.exec = Jvm.exec) (hb : c.code = cc) (hts : ∀ w ∈ xTs, w.before args s = true) (hown : s.vm.findClass own = some m.cls) (hini : xin mi = true → meth.name = "<init>") (hoy : xowny mi = own) (hce : H.size = s.heap.size + cells) (hK : va_K D vwCl (xtys cA) s) (hH : xHp q cA D L xs g t s H locs) (hv : xokv v) (hci : ci < 10) (hcl : vwCl[ci]? = some (C, T, xfsz ci)) (hlk : Cond.fieldLink own idx C (T k).2.1 (T k).2.2.1 ∈ xTs) (hT : ∀ k, k < xfsz ci → (T k).1 = C ∧ (T k).2.2.2 = decide (10 ≤ xfk ci k) ∧ xtyb (xty ci k) (xfk ci k) = true) (hty : ∀ k, k < xfsz ci → parseFieldDescriptor (T k).2.2.1 = some (xty ci k)) (hnm : ∀ a, a < xfsz ci → ∀ b, b < xfsz ci → a ≠ b → (T a).2.1 ≠ (T b).2.1) (h : xput mi ci k a v g t = some z) (hdg : decode cc pc = .ok (.putfield idx, 3))
    (kk : ∀ (H1 : Heap) (locs1 : List Loc), xHp q cA D L xs z.1 z.2 s H1 locs1 → W p l e R s m args below meth c H1 locs1 cells slots Q (F0 m (pc + 3) lsA r)) : W p l e R s m args below meth c H locs cells slots Q (F0 m pc lsA (xcv q v :: .ref (xad q a) :: r)) := by
  obtain ⟨hsz, hP, hS, hW⟩ := hH
  unfold xput at h
  split at h
  case isFalse => cases h
  case isTrue hc =>
  obtain ⟨ho, hv1, hfin, hz4, ha⟩ := hc
  obtain ⟨-, hlt, hk, hN⟩ := xobj_in hW hci ho
  have he := xws_at (q := q) (cA := cA) (g := g) (t := t) hlt
  rw [show a - 2 + 2 = a by omega, xce_obj hci ho, ← xad2 q ha] at he
  obtain ⟨hT1, hT2, hT3⟩ := hT k hk
  have hfl : k < ((List.range (g.2.1 a).2).map (fun j => xcv q (xslot g t a ci j))).length := by simpa using ho.2
  -- what the field may hold
  have hnf := xnf (q := q) (v := v) hT3 hv1 hz4
  -- the memory behind it
  have key : xWf L xs z.1 z.2 ∧ z.1.1 = g.1 ∧ (∀ b, b ≠ a → xce q cA z.1 z.2 b = xce q cA g t b) ∧ xce q cA z.1 z.2 a = .inr (ci, ((List.range (g.2.1 a).2).map (fun j => xcv q (xslot g t a ci j))).set k (xcv q v)) := by
    by_cases e2 : xft ci k = 2
    · rw [if_pos e2] at h
      split at h
      case isFalse => cases h
      case isTrue h0 =>
      cases h
      refine ⟨xptr_wf hW (by omega), rfl, fun b hb => xce_same rfl (fun _ => rfl) (fun j => ?_), ?_⟩
      · show xupd g.2.2 a k v.2 b j = _
        rw [xupd_ne (by omega)]
      · have ho' : xobj (xptr g a k v.2) a ci k := ho
        rw [xce_obj hci ho', xset_map (α := Nat)]
        congr 2
        apply List.map_congr_left
        intro j hj
        unfold xslot
        by_cases ej : j = k
        · subst ej
          rw [if_pos e2, if_pos rfl]
          congr 1
          show (2, xupd g.2.2 a j v.2 a j) = v
          rw [xupd_eq, ← e2, ← hv1]
        · rw [if_neg ej]
          show xcv q (if xft ci j = 2 then (2, xupd g.2.2 a k v.2 a j) else _) = _
          rw [xupd_ne (by omega)]
    · rw [if_neg e2] at h
      cases h
      have h64 : xr64 v.2 := by
        have : v.1 = 0 ∨ v.1 = 1 := by
          have hm := xtyb_m hT3
          have hft : xft ci k = if xfk ci k % 10 = 4 then 0 else xfk ci k % 10 := rfl
          rw [hv1]
          rw [hft] at e2 ⊢
          split at e2 <;> split <;> omega
        rcases this with e | e
        · exact xr32_mono (hv.1 e)
        · exact hv.2 e
      have h32 : ((g.2.1 a).1 = 21 ∨ ((g.2.1 a).1 < 20 ∧ xft (g.2.1 a).1 k = 1)) ∨ xr32 v.2 := by
        rw [ho.1]
        by_cases e1 : xft ci k = 1
        · exact .inl (.inr ⟨by omega, e1⟩)
        · refine .inr (hv.1 ?_)
          rw [hv1]
          have hm := xtyb_m hT3
          have hft : xft ci k = if xfk ci k % 10 = 4 then 0 else xfk ci k % 10 := rfl
          rw [hft] at e1 e2 ⊢
          split at e1 <;> split at e2 <;> split <;> omega
      refine ⟨xput_wf hW ha (by omega) h64 h32, rfl, fun b hb => xce_same rfl (fun j => ?_) (fun _ => rfl), ?_⟩
      · show xupd t a k v.2 b j = t b j
        rw [xupd_ne (by omega)]
      · rw [xce_obj hci ho, xset_map (α := Nat)]
        congr 2
        apply List.map_congr_left
        intro j hj
        unfold xslot
        by_cases ej : j = k
        · subst ej
          rw [if_neg e2, if_pos rfl]
          congr 1
          show (xft ci j, xupd t a j v.2 a j) = v
          rw [xupd_eq, ← hv1]
        · rw [if_neg ej]
          show xcv q (if xft ci j = 2 then _ else (xft ci j, xupd t a k v.2 a j)) = _
          rw [xupd_ne (by omega)]
  obtain ⟨kW, k1, k2, k3⟩ := key
  have hset : ∀ (w : va_W), w = (xws q cA g t).set (a - 2) (xad q a, .inr (ci, ((List.range (g.2.1 a).2).map (fun j => xcv q (xslot g t a ci j))).set k (xcv q v))) → w = xws q cA z.1 z.2 := by
    intro w hw
    rw [hw, ← k3, xad2 q ha]
    have := xws_set (q := q) (cA := cA) (g := g) (g' := z.1) (t := t) (t' := z.2) (a := a - 2) (by rw [k1]) (fun b hb => k2 b (by omega))
    rw [show a - 2 + 2 = a by omega] at this
    exact this
  have fin : ∀ (H1 : Heap) (locs1 : List Loc), va_P D vwCl ((xws q cA g t).set (a - 2) (xad q a, .inr (ci, ((List.range (g.2.1 a).2).map (fun j => xcv q (xslot g t a ci j))).set k (xcv q v)))) H1 → va_S (fun a => q.2.2 ≤ a) H H1 locs1 → W p l e R s m args below meth c H1 locs1 cells slots Q (F0 m (pc + 3) lsA r) := by
    intro H1 locs1 hP1 hS1
    rw [hset _ rfl] at hP1
    refine xW_le fun hle => ?_
    have := hS1.1
    exact kk H1 locs1 ⟨by rw [k1]; omega, hP1, xS_up hS hS1, kW⟩
  have hcn : xcn ci = C := by unfold xcn; rw [hcl]
  by_cases hf : xfk ci k < 10
  · exact va_put hx hb hts (xhin hcl) (xty ci) hty hnm hown hK hP (xws_D q cA g t) (xS_here hS) (a - 2) he hcl k hk (hts _ hlk) (fun x hx => by rw [← hT1]; exact hx) (by rw [hT2]; exact decide_eq_false (by omega)) (hty k hk) hnf.1 hnf.2 hfl hdg (fun H1 locs1 hP1 _ hS1 => fin H1 locs1 hP1 hS1)
  · have hi := (hfin.resolve_left hf)
    exact va_putF hx hb hts (xhin hcl) (xty ci) hty hnm hown hK hP (xws_D q cA g t) (xS_here hS) (a - 2) he hcl k hk (hts _ hlk) (fun x hx => by rw [← hT1]; exact hx) (by rw [hT2]; exact decide_eq_true (by omega)) (hini hi.1) (by rw [hT1, ← hcn, ← hi.2, hoy]) (hty k hk) hnf.1 hnf.2 hfl hdg (fun H1 locs1 hP1 _ hS1 => fin H1 locs1 hP1 hS1)
theorem xce_20 {q : xK} {cA : Nat → ClassId} {g : xG} {t : xD} {a : Nat} (h : (g.2.1 a).1 = 20) : xce q cA g t a = .inl (cA 0, (g.2.1 a).2, .inl (fun j => Int32.ofInt (t a j))) := by
  unfold xce
  rw [if_neg (by omega), if_pos h]
theorem xce_21 {q : xK} {cA : Nat → ClassId} {g : xG} {t : xD} {a : Nat} (h : (g.2.1 a).1 = 21) : xce q cA g t a = .inl (cA 1, (g.2.1 a).2, .inr (.inl (fun j => Int64.ofInt (t a j)))) := by
  unfold xce
  rw [if_neg (by omega), if_neg (by omega), if_pos h]
theorem xce_22 {q : xK} {cA : Nat → ClassId} {g : xG} {t : xD} {a : Nat} (h : (g.2.1 a).1 = 22) : xce q cA g t a = .inl (cA 2, (g.2.1 a).2, .inl (fun j => Int32.ofInt (t a j))) := by
  unfold xce
  rw [if_neg (by omega), if_neg (by omega), if_neg (by omega), if_pos h]
theorem xce_23 {q : xK} {cA : Nat → ClassId} {g : xG} {t : xD} {a : Nat} (h : 23 ≤ (g.2.1 a).1) : xce q cA g t a = .inl (cA ((g.2.1 a).1 - 20), (g.2.1 a).2, .inr (.inr (.inr (.inr (fun j => xrf q (g.2.2 a j)))))) := by
  unfold xce
  rw [if_neg (by omega), if_neg (by omega), if_neg (by omega), if_neg (by omega)]
theorem xws_ad {q : xK} {cA : Nat → ClassId} {g : xG} {t : xD} {a : Nat} (ha : 2 ≤ a) (hlt : a - 2 < g.1.1) : (xws q cA g t)[a - 2]? = some (xad q a, xce q cA g t a) := by
  have he := xws_at (q := q) (cA := cA) (g := g) (t := t) hlt
  rwa [show a - 2 + 2 = a by omega, ← xad2 q ha] at he
theorem xws_up {q : xK} {cA : Nat → ClassId} {g g' : xG} {t t' : xD} {a : Nat} {x : va_E} (ha : 2 ≤ a) (h1 : g'.1.1 = g.1.1) (ho : ∀ b, b ≠ a → xce q cA g' t' b = xce q cA g t b) (hx : xce q cA g' t' a = x) : (xws q cA g t).set (a - 2) (xad q a, x) = xws q cA g' t' := by
  have := xws_set (q := q) (cA := cA) (g := g) (g' := g') (t := t) (t' := t') (a := a - 2) h1 (fun b hb => ho b (by omega))
  rw [show a - 2 + 2 = a by omega] at this
  rw [← hx, xad2 q ha]
  exact this
theorem xi2b_r (x : Int) : xr32 (xi2b x) := xr32_of _
set_option maxHeartbeats 4000000 in
theorem xs_ald {cc : ByteArray} {pc kd a : Nat} {ins : Instr} {lsA : Array Slot} {r : List Value} {g : xG} {t : xD} {i : Int} {v : xV} (hx : p.tables.exec = Jvm.exec) (hb : c.code = cc) (hKn : xKn D cA q L xs s s.heap) (hH : xHp q cA D L xs g t s H locs) (hins : (kd = 20 ∧ ins = .iaload) ∨ (kd = 21 ∧ ins = .laload) ∨ (kd = 22 ∧ ins = .baload) ∨ (kd = 23 ∧ ins = .aaload)) (hi : xr32 i) (h : xald kd a i g t = some v) (hdg : decode cc pc = .ok (ins, 1))
    (kk : xokv v → W p l e R s m args below meth c H locs cells slots Q (F0 m (pc + 1) lsA (xcv q v :: r))) : W p l e R s m args below meth c H locs cells slots Q (F0 m pc lsA (.int (Int32.ofInt i) :: .ref (xad q a) :: r)) := by
  obtain ⟨hsz, hP, hS, hW⟩ := hH
  obtain ⟨hK, hX1, hX2, -, hq1, hq2, hqz, -⟩ := hKn
  obtain ⟨w1, w2, w3, w4, w5, w6, w7, w8, w9⟩ := id hW
  unfold xald at h
  split at h
  case isFalse => cases h
  case isTrue hc =>
  have hin := xin32 hi hc.1 hc.2
  have hcl := xclamp hi
  have h32 : ∀ j, (g.2.1 a).1 = 20 ∨ (g.2.1 a).1 = 22 → xr32 (t a j) := fun j hj => by
    rcases (w6 a j).2 with z | z
    · rcases z with z | z
      · rcases hj with hj | hj <;> omega
      · rcases hj with hj | hj <;> omega
    · exact z
  have hlt : 2 ≤ a → a - 2 < g.1.1 := fun ha => xarr_in hW ha (by omega)
  rcases hins with ⟨rfl, rfl⟩ | ⟨rfl, rfl⟩ | ⟨rfl, rfl⟩ | ⟨rfl, rfl⟩
  · rw [if_neg (by decide)] at h
    split at h
    case isFalse => cases h
    case isTrue hk =>
    cases h
    have kk := kk (xok_i (h32 _ (.inl hk)))
    match a, hc, hk, kk, hin, h32, hlt with
    | 0, hc, hk, kk, hin, h32, hlt =>
      rw [w2] at hin hc
      have ev : xcv q (0, t 0 i.toNat) = .int (xs (Int32.ofInt i).toNatClampNeg) := by rw [xcv_i, w7 _ hc.2, Int32.ofInt_toInt, hcl]
      have kk : W p l e R s m args below meth c H locs cells slots Q (F0 m (pc + 1) lsA (xcv q (0, t 0 i.toNat) :: r)) := kk
      rw [ev] at kk
      exact va_sld hx hb hX1 (by omega) (Nat.not_le.mpr hq1) hS hin hdg kk
    | 1, hc, hk, kk, hin, h32, hlt =>
      rw [w3] at hin hc
      have ev : xcv q (0, t 1 i.toNat) = .int (xkv (Int32.ofInt i).toNatClampNeg) := by rw [xcv_i, w8 _ hc.2, Int32.ofInt_toInt, hcl]
      have kk : W p l e R s m args below meth c H locs cells slots Q (F0 m (pc + 1) lsA (xcv q (0, t 1 i.toNat) :: r)) := kk
      rw [ev] at kk
      exact va_ti hx hb hX2 hS hin rfl hdg kk
    | a + 2, hc, hk, kk, hin, h32, hlt =>
      have he := xws_ad (q := q) (cA := cA) (t := t) (by omega) (hlt (by omega))
      rw [xce_20 hk] at he
      refine va_iald hx hb hK hP (a + 2 - 2) 0 he (xtys_at (by decide)) hin hdg ?_
      show W p l e R s m args below meth c H locs cells slots Q (F0 m (pc + 1) lsA (.int (Int32.ofInt (t (a + 2) (Int32.ofInt i).toNatClampNeg)) :: r))
      rw [hcl]
      exact kk
  · rw [if_neg (by decide)] at h
    split at h
    case isFalse => cases h
    case isTrue hk =>
    cases h
    have kk := kk (xok_l (w6 _ _).1)
    have ha : 2 ≤ a := by
      rcases (by omega : a = 0 ∨ a = 1 ∨ 2 ≤ a) with rfl | rfl | z
      · rw [w2] at hk; cases hk
      · rw [w3] at hk; cases hk
      · exact z
    have he := xws_ad (q := q) (cA := cA) (t := t) ha (hlt ha)
    rw [xce_21 hk] at he
    refine va_lald hx hb hK hP (a - 2) 1 he (xtys_at (by decide)) hin hdg ?_
    show W p l e R s m args below meth c H locs cells slots Q (F0 m (pc + 1) lsA (.long (Int64.ofInt (t a (Int32.ofInt i).toNatClampNeg)) :: r))
    rw [hcl]
    exact kk
  · rw [if_neg (by decide)] at h
    split at h
    case isFalse => cases h
    case isTrue hk =>
    cases h
    have kk := kk (xok_i (h32 _ (.inr hk)))
    have ha : 2 ≤ a := by
      rcases (by omega : a = 0 ∨ a = 1 ∨ 2 ≤ a) with rfl | rfl | z
      · rw [w2] at hk; cases hk
      · rw [w3] at hk; cases hk
      · exact z
    have he := xws_ad (q := q) (cA := cA) (t := t) ha (hlt ha)
    rw [xce_22 hk] at he
    refine va_bald hx hb hK hP (a - 2) 2 he (xtys_at (by decide)) hin hdg ?_
    show W p l e R s m args below meth c H locs cells slots Q (F0 m (pc + 1) lsA (.int (Int32.ofInt (t a (Int32.ofInt i).toNatClampNeg)) :: r))
    rw [hcl]
    exact kk
  · rw [if_pos rfl] at h
    split at h
    case isFalse => cases h
    case isTrue hk =>
    cases h
    have kk := kk (xok_r _)
    have ha : 2 ≤ a := by
      rcases (by omega : a = 0 ∨ a = 1 ∨ 2 ≤ a) with rfl | rfl | z
      · rw [w2] at hk; have z1 : 23 ≤ 20 := hk.1; omega
      · rw [w3] at hk; have z1 : 23 ≤ 20 := hk.1; omega
      · exact z
    have he := xws_ad (q := q) (cA := cA) (t := t) ha (hlt ha)
    rw [xce_23 hk.1] at he
    have hkk : W p l e R s m args below meth c H locs cells slots Q (F0 m (pc + 1) lsA (va_rf (xrf q (g.2.2 a (Int32.ofInt i).toNatClampNeg)) :: r)) := by
      rw [hcl]
      exact kk
    rcases (by omega : (g.2.1 a).1 = 23 ∨ (g.2.1 a).1 = 24 ∨ (g.2.1 a).1 = 25 ∨ (g.2.1 a).1 = 26) with z | z | z | z
    · rw [z] at he
      exact va_aldq hx hb hK hP (a - 2) 3 he (xtys_at (cA := cA) (by decide)) hin hdg hkk
    · rw [z] at he
      exact va_aldq hx hb hK hP (a - 2) 4 he (xtys_at (cA := cA) (by decide)) hin hdg hkk
    · rw [z] at he
      exact va_aldq hx hb hK hP (a - 2) 5 he (xtys_at (cA := cA) (by decide)) hin hdg hkk
    · rw [z] at he
      have hl2 : (Int32.ofInt i).toNatClampNeg < (g.2.1 a).2 := by rw [hcl]; exact hc.2
      exact W.aald (v := va_rf (xrf q (g.2.2 a (Int32.ofInt i).toNatClampNeg))) (ty := .array .int) hx hb (hP (a - 2) _ he) ((hK.2 6 _ (xtys_at (cA := cA) (by decide))).1 (g.2.1 a).2 (fun j => va_rf (xrf q (g.2.2 a j)))) rfl (fun q => by cases q) (by show ¬ (_ ∨ (arrV _ _ _).slots.size ≤ _); rw [arrV_size]; exact hin) (by show (arrV _ _ _).slots[_]? = _; rw [arrV_read _ _ hl2]) rfl rfl hdg hkk
set_option maxHeartbeats 4000000 in
theorem xs_ast {cc : ByteArray} {pc kd a : Nat} {ins : Instr} {lsA : Array Slot} {r : List Value} {g : xG} {t : xD} {i : Int} {v : xV} {z : xG × xD} (hx : p.tables.exec = Jvm.exec) (hb : c.code = cc) (hKn : xKn D cA q L xs s s.heap) (hH : xHp q cA D L xs g t s H locs) (hce : H.size = s.heap.size + cells) (hins : (kd = 20 ∧ ins = .iastore) ∨ (kd = 21 ∧ ins = .lastore) ∨ (kd = 22 ∧ ins = .bastore) ∨ (kd = 23 ∧ ins = .aastore)) (hi : xr32 i) (hv : xokv v) (h : xast kd a i v g t = some z) (hdg : decode cc pc = .ok (ins, 1))
    (kk : ∀ (H1 : Heap) (locs1 : List Loc), xHp q cA D L xs z.1 z.2 s H1 locs1 → W p l e R s m args below meth c H1 locs1 cells slots Q (F0 m (pc + 1) lsA r)) : W p l e R s m args below meth c H locs cells slots Q (F0 m pc lsA (xcv q v :: .int (Int32.ofInt i) :: .ref (xad q a) :: r)) := by
  obtain ⟨hsz, hP, hS, hW⟩ := hH
  obtain ⟨hK, hX1, hX2, -, hq1, hq2, hqz, -⟩ := hKn
  obtain ⟨w1, w2, w3, w4, w5, w6, w7, w8, w9⟩ := id hW
  unfold xast at h
  split at h
  case isFalse => cases h
  case isTrue hc =>
  obtain ⟨hc0, hc1, ha⟩ := hc
  have hin := xin32 hi hc0 hc1
  have hcl := xclamp hi
  have hlt : a - 2 < g.1.1 := xarr_in hW ha (by omega)
  have he := xws_ad (q := q) (cA := cA) (g := g) (t := t) ha hlt
  have fin : ∀ {x : va_E}, xWf L xs z.1 z.2 → z.1.1 = g.1 → (∀ b, b ≠ a → xce q cA z.1 z.2 b = xce q cA g t b) → xce q cA z.1 z.2 a = x → ∀ (H1 : Heap) (locs1 : List Loc), va_P D vwCl ((xws q cA g t).set (a - 2) (xad q a, x)) H1 → va_D (fun a => q.2.2 ≤ a) ((xws q cA g t).set (a - 2) (xad q a, x)) → va_S (fun a => q.2.2 ≤ a) H H1 locs1 → W p l e R s m args below meth c H1 locs1 cells slots Q (F0 m (pc + 1) lsA r) := by
    intro x k0 k1 k2 k3 H1 locs1 hP1 _ hS1
    rw [xws_up ha (by rw [k1]) k2 k3] at hP1
    refine xW_le fun hle => ?_
    have := hS1.1
    exact kk H1 locs1 ⟨by rw [k1]; omega, hP1, xS_up hS hS1, k0⟩
  have hoth : ∀ (x : Int), ∀ b, b ≠ a → xce q cA g (xupd t a i.toNat x) b = xce q cA g t b := fun x b hb => xce_same rfl (fun j => by rw [xupd_ne (by omega)]) (fun _ => rfl)
  rcases hins with ⟨rfl, rfl⟩ | ⟨rfl, rfl⟩ | ⟨rfl, rfl⟩ | ⟨rfl, rfl⟩
  · rw [if_neg (by decide : ¬ (20 : Nat) = 23)] at h
    by_cases hk : (g.2.1 a).1 = 20 ∧ v.1 = (if (20 : Nat) = 21 then 1 else 0)
    case neg => rw [if_neg hk] at h; cases h
    rw [if_pos hk, if_neg (by decide : ¬ (20 : Nat) = 22)] at h
    cases h
    have hk : (g.2.1 a).1 = 20 ∧ v.1 = 0 := hk
    obtain ⟨tg, x⟩ := v
    have e0 : tg = 0 := hk.2
    subst e0
    rw [xce_20 hk.1] at he
    have h32 : xr32 x := hv.1 rfl
    refine va_iast (x := Int32.ofInt x) hx hb hK hP (xws_D q cA g t) (xS_here hS) (a - 2) 0 he (xtys_at (by decide)) hin hdg (fin (xput_wf hW ha (by omega) (xr32_mono h32) (.inr h32)) rfl (hoth x) ?_)
    rw [xce_20 hk.1]
    congr 4
    funext j
    unfold upd
    rw [hcl]
    by_cases ej : j = i.toNat
    · rw [if_pos ej, ej]
      show Int32.ofInt (xupd t a i.toNat x a i.toNat) = _
      rw [xupd_eq]
    · rw [if_neg ej]
      show Int32.ofInt (xupd t a i.toNat x a j) = _
      rw [xupd_ne (by omega)]
  · rw [if_neg (by decide : ¬ (21 : Nat) = 23)] at h
    by_cases hk : (g.2.1 a).1 = 21 ∧ v.1 = (if (21 : Nat) = 21 then 1 else 0)
    case neg => rw [if_neg hk] at h; cases h
    rw [if_pos hk, if_neg (by decide : ¬ (21 : Nat) = 22)] at h
    cases h
    have hk : (g.2.1 a).1 = 21 ∧ v.1 = 1 := hk
    obtain ⟨tg, x⟩ := v
    have e0 : tg = 1 := hk.2
    subst e0
    rw [xce_21 hk.1] at he
    have h64 : xr64 x := hv.2 rfl
    refine va_last (x := Int64.ofInt x) hx hb hK hP (xws_D q cA g t) (xS_here hS) (a - 2) 1 he (xtys_at (by decide)) hin hdg (fin (xput_wf hW ha (by omega) h64 (.inl (.inl hk.1))) rfl (hoth x) ?_)
    rw [xce_21 hk.1]
    congr 5
    funext j
    unfold vp_updL
    rw [hcl]
    by_cases ej : j = i.toNat
    · rw [if_pos ej, ej]
      show Int64.ofInt (xupd t a i.toNat x a i.toNat) = _
      rw [xupd_eq]
    · rw [if_neg ej]
      show Int64.ofInt (xupd t a i.toNat x a j) = _
      rw [xupd_ne (by omega)]
  · rw [if_neg (by decide : ¬ (22 : Nat) = 23)] at h
    by_cases hk : (g.2.1 a).1 = 22 ∧ v.1 = (if (22 : Nat) = 21 then 1 else 0)
    case neg => rw [if_neg hk] at h; cases h
    rw [if_pos hk, if_pos rfl] at h
    cases h
    have hk : (g.2.1 a).1 = 22 ∧ v.1 = 0 := hk
    obtain ⟨tg, x⟩ := v
    have e0 : tg = 0 := hk.2
    subst e0
    rw [xce_22 hk.1] at he
    refine va_bast (x := Int32.ofInt x) hx hb hK hP (xws_D q cA g t) (xS_here hS) (a - 2) 2 he (xtys_at (by decide)) hin hdg (fin (xput_wf hW ha (by omega) (xr32_mono (xi2b_r x)) (.inr (xi2b_r x))) rfl (hoth (xi2b x)) ?_)
    rw [xce_22 hk.1]
    congr 4
    funext j
    unfold upd
    rw [hcl]
    by_cases ej : j = i.toNat
    · rw [if_pos ej, ej]
      show Int32.ofInt (xupd t a i.toNat (xi2b x) a i.toNat) = _
      rw [xupd_eq]
      unfold xi2b vp_nar
      rw [Int32.ofInt_toInt]
      rfl
    · rw [if_neg ej]
      show Int32.ofInt (xupd t a i.toNat (xi2b x) a j) = _
      rw [xupd_ne (by omega)]
  · rw [if_pos rfl] at h
    split at h
    case isFalse => cases h
    case isTrue hk =>
    cases h
    obtain ⟨tg, x⟩ := v
    obtain ⟨e0, h0, hk1, hk2, hob⟩ := hk
    have e0 : tg = 2 := e0
    have h0 : 0 ≤ x := h0
    subst e0
    have ex : x = Int.ofNat x.toNat := by rw [Int.ofNat_eq_natCast, Int.toNat_of_nonneg h0]
    have exv : xcv q (2, x) = .ref (xad q x.toNat) := by rw [ex]; exact xcv_r q x.toNat
    have hob : xobj g x.toNat (xrowc (g.2.1 a).1) 0 := hob
    rw [xce_23 hk1] at he
    rw [exv]
    have hoth2 : ∀ b, b ≠ a → xce q cA (xptr g a i.toNat x) t b = xce q cA g t b := fun b hb => xce_same rfl (fun _ => rfl) (fun j => by
      show xupd g.2.2 a i.toNat x b j = _
      rw [xupd_ne (by omega)])
    have hself : xce q cA (xptr g a i.toNat x) t a = .inl (cA ((g.2.1 a).1 - 20), (g.2.1 a).2, .inr (.inr (.inr (.inr (va_up (fun j => xrf q (g.2.2 a j)) (Int32.ofInt i).toNatClampNeg (some (xad q x.toNat))))))) := by
      have hk1' : 23 ≤ ((xptr g a i.toNat x).2.1 a).1 := hk1
      rw [xce_23 hk1', hcl]
      show Sum.inl (cA ((g.2.1 a).1 - 20), (g.2.1 a).2, _) = _
      congr 7
      funext j
      unfold va_up
      by_cases ej : j = i.toNat
      · rw [if_pos ej, ej]
        show xrf q (xupd g.2.2 a i.toNat x a i.toNat) = _
        rw [xupd_eq, ex, xrf_nat]
        rfl
      · rw [if_neg ej]
        show xrf q (xupd g.2.2 a i.toNat x a j) = _
        rw [xupd_ne (by omega)]
    have hwf : xWf L xs (xptr g a i.toNat x) t := xptr_wf hW (by omega)
    rcases (by omega : (g.2.1 a).1 = 23 ∨ (g.2.1 a).1 = 24 ∨ (g.2.1 a).1 = 25) with zk | zk | zk
    · rw [zk] at he hself hob
      obtain ⟨hb1, hb2, -, -⟩ := xobj_in hW (by decide) hob
      have hv2 := xws_ad (q := q) (cA := cA) (g := g) (t := t) hb1 hb2
      rw [xce_obj (by decide) hob] at hv2
      exact va_astq (r := (RX2, TX2, 8)) hx hb hK hP (xws_D q cA g t) (xS_here hS) (a - 2) 3 (x.toNat - 2) 2 he (xtys_at (cA := cA) (by decide)) hv2 rfl hin hdg (fin hwf rfl hoth2 hself)
    · rw [zk] at he hself hob
      obtain ⟨hb1, hb2, -, -⟩ := xobj_in hW (by decide) hob
      have hv2 := xws_ad (q := q) (cA := cA) (g := g) (t := t) hb1 hb2
      rw [xce_obj (by decide) hob] at hv2
      exact va_astq (r := (RX0, TX0, 6)) hx hb hK hP (xws_D q cA g t) (xS_here hS) (a - 2) 4 (x.toNat - 2) 0 he (xtys_at (cA := cA) (by decide)) hv2 rfl hin hdg (fin hwf rfl hoth2 hself)
    · rw [zk] at he hself hob
      obtain ⟨hb1, hb2, -, -⟩ := xobj_in hW (by decide) hob
      have hv2 := xws_ad (q := q) (cA := cA) (g := g) (t := t) hb1 hb2
      rw [xce_obj (by decide) hob] at hv2
      exact va_astq (r := (RX6, TX6, 3)) hx hb hK hP (xws_D q cA g t) (xS_here hS) (a - 2) 5 (x.toNat - 2) 6 he (xtys_at (cA := cA) (by decide)) hv2 rfl hin hdg (fin hwf rfl hoth2 hself)
set_option maxHeartbeats 4000000 in
theorem xs_copy {cc : ByteArray} {pc a b idx : Nat} {own : String} {lsA : Array Slot} {r : List xV} {g : xG} {t : xD} {n dp sp : Int} (hx : p.tables.exec = Jvm.exec) (hb : c.code = cc) (hml : c.maxLocals = lsA.size) (hts : ∀ w ∈ xTs, w.before args s = true) (hown : s.vm.findClass own = some m.cls) (hlk : Cond.methodLink own idx arraycopyName ∈ xTs) (hKn : xKn D cA q L xs s s.heap) (hH : xHp q cA D L xs g t s H locs) (hce : H.size = s.heap.size + cells) (hfr : 1 ≤ R.frames) (hlo : 128 ≤ R.locals) (hr8 : xcats r ≤ 8) (ha : 2 ≤ a) (hb2 : 2 ≤ b) (hn : 0 ≤ n) (hd : 0 ≤ dp) (hs : 0 ≤ sp) (rn : xr32 n) (rd : xr32 dp) (rs : xr32 sp) (hk : (g.2.1 a).1 = 20 ∨ (g.2.1 a).1 = 21) (hkb : (g.2.1 b).1 = (g.2.1 a).1) (h4 : sp.toNat + n.toNat ≤ (g.2.1 b).2) (h5 : dp.toNat + n.toNat ≤ (g.2.1 a).2) (hza : 0 < (g.2.1 a).2) (hzb : 0 < (g.2.1 b).2) (hdg : decode cc pc = .ok (.invokestatic idx, 3))
    (kk : ∀ (H1 : Heap) (locs1 : List Loc), xHp q cA D L xs g (xcpy t b sp.toNat a dp.toNat n.toNat) s H1 locs1 → W p l e R s m args below meth c H1 locs1 cells slots Q (F0 m (pc + 3) lsA (r.map (xcv q)))) : W p l e R s m args below meth c H locs cells slots Q (F0 m pc lsA (.int (Int32.ofInt n) :: .int (Int32.ofInt dp) :: .ref (xad q a) :: .int (Int32.ofInt sp) :: .ref (xad q b) :: r.map (xcv q))) := by
  obtain ⟨hsz, hP, hS, hW⟩ := hH
  obtain ⟨hK, -⟩ := hKn
  obtain ⟨w1, w2, w3, w4, w5, w6, w7, w8, w9⟩ := id hW
  have hla : a - 2 < g.1.1 := xarr_in hW ha hza
  have hlb : b - 2 < g.1.1 := xarr_in hW hb2 hzb
  have hea := xws_ad (q := q) (cA := cA) (g := g) (t := t) ha hla
  have heb := xws_ad (q := q) (cA := cA) (g := g) (t := t) hb2 hlb
  have neg : ∀ {z : Int}, xr32 z → 0 ≤ z → ¬ Int32.ofInt z < 0 := fun hz h0 => by
    rw [← x0_32, xlt32 hz ⟨by decide, by decide⟩]
    omega
  have hwf : xWf L xs g (xcpy t b sp.toNat a dp.toNat n.toNat) := by
    refine ⟨fun x hx => ⟨(w1 x hx).1, fun j => ⟨?_, ((w1 x hx).2 j).2⟩⟩, w2, w3, w4, w5, fun x j => ?_, fun j hj => ?_, fun j hj => ?_, w9⟩
    · unfold xcpy
      rw [if_neg (by omega)]
      exact ((w1 x hx).2 j).1
    · unfold xcpy
      by_cases ex : x = a ∧ dp.toNat ≤ j ∧ j < dp.toNat + n.toNat
      · rw [if_pos ex]
        refine ⟨(w6 b _).1, ?_⟩
        rcases (w6 b (sp.toNat + (j - dp.toNat))).2 with z | z
        · rcases z with z | z
          · exact .inl (.inl (by rw [ex.1, ← hkb]; exact z))
          · rcases hk with hk | hk <;> omega
        · exact .inr z
      · rw [if_neg ex]; exact w6 x j
    · unfold xcpy
      rw [if_neg (by omega)]; exact w7 j hj
    · unfold xcpy
      rw [if_neg (by omega)]; exact w8 j hj
  have fin : ∀ {x : va_E}, xce q cA g (xcpy t b sp.toNat a dp.toNat n.toNat) a = x → ∀ (H1 : Heap) (locs1 : List Loc), va_P D vwCl ((xws q cA g t).set (a - 2) (xad q a, x)) H1 → va_D (fun a => q.2.2 ≤ a) ((xws q cA g t).set (a - 2) (xad q a, x)) → va_S (fun a => q.2.2 ≤ a) H H1 locs1 → W p l e R s m args below meth c H1 locs1 cells slots Q (F0 m (pc + 3) lsA (r.map (xcv q))) := by
    intro x k3 H1 locs1 hP1 _ hS1
    rw [xws_up (g' := g) (t' := xcpy t b sp.toNat a dp.toNat n.toNat) ha rfl (fun x hx => xce_same rfl (fun j => by unfold xcpy; rw [if_neg (by omega)]) (fun _ => rfl)) k3] at hP1
    refine xW_le fun hle => ?_
    have := hS1.1
    exact kk H1 locs1 ⟨by omega, hP1, xS_up hS hS1, hwf⟩
  have hloc : ((r.map (xcv q)).map fun v => v.category).sum + (nativeFrameWords "java/lang/System" "arraycopy" 5 + 11) ≤ R.locals := by
    rw [List.map_map]
    have e1 : (r.map ((fun v => v.category) ∘ xcv q)) = r.map xcat := List.map_congr_left (fun v _ => xcv_cat q v)
    rw [e1]
    have : nativeFrameWords "java/lang/System" "arraycopy" 5 + 11 ≤ 100 := by decide +kernel
    have h8 : (r.map xcat).sum ≤ 8 := hr8
    omega
  have wn : Cond.native arraycopyName ∈ xTs := xT_copy (by decide +kernel)
  have ws1 : Cond.static arraycopyName ∈ xTs := xT_copy (by decide +kernel)
  have wi : Cond.initialized "java/lang/System" ∈ xTs := xT_copy (by decide +kernel)
  rcases hk with hk | hk
  · rw [xce_20 hk] at hea
    rw [hk] at hkb
    rw [xce_20 hkb] at heb
    refine va_copyi (ty := .int) hx hb hml hown (hts _ hlk) (hts _ wn) (hts _ ws1) (hts _ wi) hK hP (xws_D q cA g t) (xS_here hS) (b - 2) (a - 2) 0 0 heb hea (xtys_at (by decide)) (xtys_at (by decide)) rfl (neg rs hs) (neg rd hd) (neg rn hn) (by rw [xclamp rs, xclamp rn]; exact h4) (by rw [xclamp rd, xclamp rn]; exact h5) (fun _ _ => rfl) hfr hloc hdg (fin ?_)
    rw [xce_20 hk, xclamp rs, xclamp rd, xclamp rn]
    congr 4
    funext j
    unfold va_cpy xcpy
    by_cases ej : dp.toNat ≤ j ∧ j < dp.toNat + n.toNat
    · rw [if_pos ej, if_pos ⟨rfl, ej⟩]
    · rw [if_neg ej, if_neg (fun z => ej z.2)]
  · rw [xce_21 hk] at hea
    rw [hk] at hkb
    rw [xce_21 hkb] at heb
    refine va_copyl (ty := .long) hx hb hml hown (hts _ hlk) (hts _ wn) (hts _ ws1) (hts _ wi) hK hP (xws_D q cA g t) (xS_here hS) (b - 2) (a - 2) 1 1 heb hea (xtys_at (by decide)) (xtys_at (by decide)) rfl (neg rs hs) (neg rd hd) (neg rn hn) (by rw [xclamp rs, xclamp rn]; exact h4) (by rw [xclamp rd, xclamp rn]; exact h5) (fun _ _ => rfl) hfr hloc hdg (fin ?_)
    rw [xce_21 hk, xclamp rs, xclamp rd, xclamp rn]
    congr 5
    funext j
    unfold va_cpy xcpy
    by_cases ej : dp.toNat ≤ j ∧ j < dp.toNat + n.toNat
    · rw [if_pos ej, if_pos ⟨rfl, ej⟩]
    · rw [if_neg ej, if_neg (fun z => ej z.2)]
end XSTEP
