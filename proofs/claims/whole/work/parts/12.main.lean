/-! THE RUN, by its length -/
theorem xret_inv {mi a : Nat} {st : List xV} {r : Option xV} (h : xret mi a st = some r) : (a = 0 ∧ st = [] ∧ r = none ∧ xrk mi = 0) ∨ (a = 1 ∧ ∃ x, st = [(0, x)] ∧ r = some (0, x) ∧ (xrk mi = 1 ∨ (xrk mi = 3 ∧ (x = 0 ∨ x = 1)))) ∨ (a = 2 ∧ ∃ x, st = [(1, x)] ∧ r = some (1, x) ∧ xrk mi = 2) := by
  unfold xret at h
  split at h
  · split at h
    · cases h; exact .inl ⟨rfl, rfl, rfl, by assumption⟩
    · cases h
  · split at h
    · cases h; exact .inr (.inl ⟨rfl, _, rfl, rfl, by assumption⟩)
    · cases h
  · split at h
    · cases h; exact .inr (.inr ⟨rfl, _, rfl, rfl, by assumption⟩)
    · cases h
  · cases h
section XMAIN
variable {q : xK} {cA : Nat → ClassId} {D : va_G} {L : Nat} {xs : Nat → Int32}
/-- what is owed of a run of length n -/
def xSim (q : xK) (cA : Nat → ClassId) (D : va_G) (L : Nat) (xs : Nat → Int32) (n : Nat) : Prop :=
  ∀ (d mi pc : Nat) (ls st : List xV) (g : xG) (t : xD) (r : Option xV) (g' : xG) (t' : xD), xrun n d mi pc ls st g t = some (r, g', t') →
  ∀ (p : Program) (l : Launch) (e : Env) (R : Room) (s : State) (m : MethodId) (args : Array Value) (below : List Frame) (meth : Method) (c : Code) (H : Heap) (locs : List Loc) (cells slots : Nat) (Q : State → Prop) (lsA : Array Slot),
    xCx p s m args meth c mi D cA q L xs → xLv q lsA (xml mi) ls → (∀ v ∈ st, xokv v) → xHp q cA D L xs g t s H locs → H.size = s.heap.size + cells → d ≤ R.frames → 64 * d + 64 ≤ R.locals → cells + (g'.1.1 - g.1.1) ≤ R.cells → slots + (g'.1.2 - g.1.2) ≤ R.slots →
    (∀ (i : Instr) (a pc1 : Nat) (st1 : List xV) (lsB : Array Slot) (H1 : Heap) (locs1 : List Loc), decode c.code pc1 = .ok (i, 1) → ((i = .return_ ∧ a = 0) ∨ (i = .ireturn ∧ a = 1) ∨ (i = .lreturn ∧ a = 2)) → xret mi a st1 = some r → (∀ v ∈ st1, xokv v) → xHp q cA D L xs g' t' s H1 locs1 → W p l e R s m args below meth c H1 locs1 (cells + (g'.1.1 - g.1.1)) (slots + (g'.1.2 - g.1.2)) Q (F0 m pc1 lsB (st1.map (xcv q)))) →
    W p l e R s m args below meth c H locs cells slots Q (F0 m pc lsA (st.map (xcv q)))
theorem xrecv_ok {s : State} {H : Heap} {locs : List Loc} {g : xG} {t : xD} (hK : va_K D vwCl (xtys cA) s) (hH : xHp q cA D L xs g t s H locs) {a ci : Nat} (hci : ci < 10) (ho : xobj g a ci 0) {C : String} (hC : (vwCl[ci]?).map (fun z => z.1) = some C) : ∃ cell : Cell, H[xad q a]? = some cell ∧ cell.vm.isStatics = false ∧ s.vm.findClass C = some cell.cls := by
  obtain ⟨hsz, hP, hS, hW⟩ := hH
  obtain ⟨ha, hlt, -, -⟩ := xobj_in hW hci ho
  have he := xws_ad (q := q) (cA := cA) (g := g) (t := t) ha hlt
  rw [xce_obj hci ho] at he
  obtain ⟨C1, T, hcl, -⟩ := xcls hci
  rw [hcl] at hC
  have hC : some C1 = some C := hC
  cases hC
  exact va_recv hK hP hcl he
theorem xPc_blind {as : List xV} {g : xG} {t : xD} : FrameBlind (xPc q cA D L xs as g t) := fun a U gf mk h => by
  obtain ⟨h1, h2, h3⟩ := h
  exact ⟨h1, h2.moved (U := U.calling gf mk a) (show U.WarmedH U.vm from State.WarmedH.refl _) (Nat.le_refl _) (fun _ _ _ => rfl), h3⟩
set_option maxHeartbeats 4000000 in
/-- a method's contract, out of its run -/
theorem xmet {n : Nat} (ih : xSim q cA D L xs n) (l : Launch) {d ci : Nat} {as : List xV} {g g' : xG} {t t' : xD} {r : Option xV} (h : xrun n d ci 0 (xenter as (xml ci)) [] g t = some (r, g', t')) {y : MethodName × ByteArray × Nat × Option FieldType × Nat} (hy : xMT[ci]? = some y) (hcn : ¬ (200 ≤ ci ∧ ci ≤ 201)) (hsp : (xspread as).length ≤ xml ci) :
    Met l y.1 (.code y.1 y.2.1 y.2.2.1 y.2.2.2.1 :: xTs) ({ frames := d, cells := g'.1.1 - g.1.1, slots := g'.1.2 - g.1.2, locals := 64 * d + 64 } : Room) (xPc q cA D L xs as g t) (xQc q cA D L xs r g' t') (g'.1.1 - g.1.1) (g'.1.2 - g.1.2) (fun a => q.2.2 ≤ a) := by
  obtain ⟨hpl, hxml, -, -, hk0, hk1, hk2, hk3⟩ := xml_ok ci y hy
  refine Met.ofW (cc := y.2.1) (maxL := y.2.2.1) (ret := y.2.2.2.1) (hpl.resolve_right hcn) rfl ?_
  intro p e s m args below meth c s₁ B hml hv
  obtain ⟨rfl, hKn, hsz, hP, hW, hok⟩ := hv
  have hx := B.exec
  have hb := B.bytes
  have hr := B.returns
  have hts := atoms_spec (ws := .code y.1 y.2.1 y.2.2.1 y.2.2.2.1 :: xTs) B.pre
  have hown : s.vm.findClass y.1.cls = some m.cls := findClass_of_methodNamed B.named
  have hlocks := B.notSynchronized
  have hin : meth.name = y.1.name := (name_of_methodNamed B.named B.method).1
  have hmono := xrun_mono _ _ _ _ _ _ _ _ _ _ _ h
  rw [lg_entry_eq]
  have hL := xenter_Lv (q := q) (as := as) (n := xml ci) hsp hok
  rw [← hxml]
  refine ih d ci 0 (xenter as (xml ci)) [] g t r g' t' h p l e _ s m _ below meth c s.heap [] 0 0 _ _ ⟨hx, ⟨y, hy, hb, hown, fun z => by rw [hin, z]⟩, by rw [hml, hxml], fun w hw => hts w (List.mem_cons_of_mem _ hw), hKn⟩ hL (fun v hv => by cases hv) ⟨hsz, hP, va_S.rf, hW⟩ rfl (Nat.le_refl _) (Nat.le_refl _) (by show 0 + (g'.1.1 - g.1.1) ≤ g'.1.1 - g.1.1; omega) (by show 0 + (g'.1.2 - g.1.2) ≤ g'.1.2 - g.1.2; omega) ?_
  intro i a pc1 st1 lsB H1 locs1 hdg hia hret hst1 hH1
  obtain ⟨hsz1, hP1, hS1, hW1⟩ := hH1
  rw [Nat.zero_add, Nat.zero_add]
  have hq : ∀ (rv : Option xV), (∀ v, rv = some v → xokv v) → rv = r → ∀ u : State, u.heap = H1 → xQc q cA D L xs r g' t' ((as.map (xcv q)).toArray) s (.returned (rv.map (xcv q))) u := by
    intro rv hrv e u hu
    subst e
    exact ⟨rfl, by rw [hu]; exact hsz1, by rw [hu]; exact hP1, hW1, hS1.F hu, hrv⟩
  rcases xret_inv hret with ⟨ha, rfl, rfl, hz⟩ | ⟨ha, x, rfl, rfl, hz⟩ | ⟨ha, x, rfl, rfl, hz⟩
  · have hi : i = .return_ := by
      rcases hia with w | w | w
      · exact w.1
      · omega
      · omega
    subst hi
    exact W.vret hx hb (by rw [hr]; exact hk0 hz) (fun u hu hW => hq none (fun v hv => by cases hv) rfl u hu) hS1.2.2 (by rw [hb] at hdg; exact hdg)
  · have hi : i = .ireturn := by
      rcases hia with w | w | w
      · omega
      · exact w.1
      · omega
    subst hi
    have hxo : xokv (0, x) := hst1 _ List.mem_cons_self
    rcases hz with hz | ⟨hz, hz2⟩
    · exact W.iret hx hb (by rw [hr]; exact hk1 hz) (fun u hu hW => hq (some (0, x)) (fun v hv => by cases hv; exact hxo) rfl u hu) hS1.2.2 (by rw [hb] at hdg; exact hdg)
    · refine W.zret (ty := .boolean) hx hb (by rw [hr]; exact hk3 hz) ?_ (fun u hu hW => hq (some (0, x)) (fun v hv => by cases hv; exact hxo) rfl u hu) hS1.2.2 (by rw [hb] at hdg; exact hdg)
      rcases hz2 with rfl | rfl
      · decide +kernel
      · decide +kernel
  · have hi : i = .lreturn := by
      rcases hia with w | w | w
      · omega
      · omega
      · exact w.1
    subst hi
    have hxo : xokv (1, x) := hst1 _ List.mem_cons_self
    exact W.lret hx hb (by rw [hr]; exact hk2 hz) (fun u hu hW => hq (some (1, x)) (fun v hv => by cases hv; exact hxo) rfl u hu) hS1.2.2 (by rw [hb] at hdg; exact hdg)
end XMAIN
