/-! THE RUN -/
theorem xrecv0 {ci : Nat} {as : List xV} {g : xG} (h : xrecvb 0 ci as g = true) : ∃ (a : Nat) (as' : List xV), as = (2, Int.ofNat a) :: as' ∧ xobj g a ci 0 := by
  match as, h with
  | (2, .ofNat a) :: r, h =>
    have h : (decide ((g.2.1 a).1 = ci) && decide (0 < (g.2.1 a).2)) = true := h
    simp only [Bool.and_eq_true, decide_eq_true_eq] at h
    exact ⟨a, r, rfl, h⟩
  | [], h => cases h
  | (0, _) :: _, h => cases h
  | (1, _) :: _, h => cases h
  | (2, .negSucc _) :: _, h => cases h
  | (k + 3, _) :: _, h => cases h
theorem xrecv2 {k ci : Nat} {as : List xV} {g : xG} (hk : k = 2 ∨ k = 3) (h : xrecvb k ci as g = true) : ∃ (a : Nat) (as' : List xV), as = (2, Int.ofNat a) :: as' := by
  rcases hk with rfl | rfl
  all_goals
    match as, h with
    | (2, .ofNat a) :: r, h => exact ⟨a, r, rfl⟩
    | [], h => cases h
    | (0, _) :: _, h => cases h
    | (1, _) :: _, h => cases h
    | (2, .negSucc _) :: _, h => cases h
    | (k + 3, _) :: _, h => cases h
theorem xLT_init : ∀ u ∈ xLT, (u.2.2.2 = 2 ∨ u.2.2.2 = 3) → (match xMT[u.2.2.1]? with
    | some y => decide (y.1.name = "<init>" ∧ y.2.2.2.1 = none)
    | none => false) = true := by decide +kernel
theorem xMT_len : xMT.length = 203 := by decide +kernel
section XRUN
variable {p : Program} {l : Launch} {e : Env} {R : Room} {s : State} {m : MethodId} {args : Array Value} {below : List Frame} {meth : Method} {c : Code} {H : Heap} {locs : List Loc} {cells slots : Nat} {Q : State → Prop}
variable {q : xK} {cA : Nat → ClassId} {D : va_G} {L : Nat} {xs : Nat → Int32} {mi : Nat}
theorem xafter {mc ms pc : Nat} {lsA : Array Slot} {stk rest : List Value} {v : Option xV} {g1 : xG} {t1 : xD} {a : Array Value} (hr : va_Run p l e R s m args below meth c H locs cells slots mc ms (F0 m pc lsA stk) rest (xQc q cA D L xs v g1 t1 a) (fun a => q.2.2 ≤ a)) (hS : va_S (fun a => q.2.2 ≤ a) s.heap H locs)
    (kk : ∀ (H1 : Heap) (locs1 : List Loc), xHp q cA D L xs g1 t1 s H1 locs1 → (∀ w, v = some w → xokv w) → W p l e R s m args below meth c H1 locs1 (cells + mc) (slots + ms) Q (F0 m (pc + 3) lsA ((v.map (xcv q)).toList ++ rest))) : W p l e R s m args below meth c H locs cells slots Q (F0 m pc lsA stk) := by
  intro T hT X
  obtain ⟨v', st₀, t', T', Lc, h0, X', hL, e1, e2, ⟨ho, hz, hP, hW, hF, hv⟩, st⟩ := hr T hT X
  have hv' : v' = v.map (xcv q) := by injection ho
  subst hv'
  have hF1 := hF.1
  have hF2 := hF.2
  rw [h0] at hF1 hF2
  obtain ⟨t2, a1, b1⟩ := kk T'.heap (locs ++ Lc) ⟨by rw [e1]; exact hz, by rw [e1]; exact hP, ⟨Nat.le_trans hS.1 (by rw [e1]; exact hF1), fun x h1 h2 => by rw [e1, hF2 x (Nat.lt_of_lt_of_le h1 hS.1) h2]; exact hS.2.1 x h1 h2, fun x hx => by
    rcases List.mem_append.mp hx with h | h
    · exact hS.2.2 x h
    · exact hL x h⟩, hW⟩ hv T' rfl X'
  exact ⟨t2, st t2 a1, b1⟩
end XRUN
set_option maxHeartbeats 8000000 in
theorem xsim (q : xK) (cA : Nat → ClassId) (D : va_G) (L : Nat) (xs : Nat → Int32) : ∀ n, xSim q cA D L xs n
  | 0 => fun d mi pc ls st g t r g' t' h => by cases h
  | n + 1 => by
    have ih := xsim q cA D L xs n
    intro d mi pc ls st g t r g' t' h p l e R s m args below meth c H locs cells slots Q lsA C hL hst hH hce hd1 hd2 hcells hslots hE
    have hmono := xrun_mono _ _ _ _ _ _ _ _ _ _ _ h
    rw [xrun_succ] at h
    obtain ⟨i, len, j, o, hc, hh⟩ := xgo_inv h
    obtain ⟨y', hy', hdg, hchk, hxml, hxbl, hxin⟩ := xcode_ok hc
    obtain ⟨hx, ⟨y, hy, hb, hown, hini⟩, hml, hts, hKn⟩ := id C
    cases hy.symm.trans hy'
    have hsz : lsA.size = xml mi := hL.1.1
    dsimp only at hdg hchk
    rcases hh with ⟨h25, r2, hret, e0⟩ | ⟨h24, hm, hmath⟩ | ⟨h24, hm, hcal⟩ | ⟨n25, n24, z, hs, hi⟩
    · cases e0
      obtain ⟨rfl, hia⟩ := xchk_ret hchk h25
      have := hE i o.2.1 pc st lsA H locs (by rw [hb]; exact hdg) hia hret hst hH
      simp only [Nat.sub_self, Nat.add_zero] at this
      exact this
    · obtain ⟨u, hu, hu1, hu2, rfl, hkind⟩ := xchk_call hchk h24
      have hum := List.mem_of_getElem? hu
      have hst1 : i = .invokestatic u.2.1 ∧ u.2.2.2 = 1 := by
        have hk : ∀ u ∈ xLT, 200 ≤ u.2.2.1 → u.2.2.1 ≤ 201 → u.2.2.2 = 1 := by decide +kernel
        have := hk u hum (by omega) (by omega)
        rcases hkind with w | w | w | w
        · omega
        · exact ⟨w.1, w.2.1⟩
        · omega
        · omega
      obtain ⟨rfl, hk1⟩ := hst1
      obtain ⟨d', rfl, hx2⟩ := xmath_inv hmath
      have hwl : ∀ w ∈ xwl u, w ∈ xTs := fun w hw => xT_link (List.mem_flatMap.mpr ⟨u, hum, hw⟩)
      unfold xwl at hwl
      rcases hx2 with ⟨h201, y2, x, r3, rfl, hr8, hi⟩ | ⟨h201, x, r3, rfl, hr8, hi⟩
      · have e1 : u.2.2.1 = 201 := by omega
        rw [e1, hk1] at hwl
        have w1 : Cond.methodLink u.1 u.2.1 yJ9_min_7cf53 ∈ xTs := hwl _ (by exact List.mem_cons_self)
        have w2 : Cond.static yJ9_min_7cf53 ∈ xTs := hwl _ (by exact List.mem_cons_of_mem _ List.mem_cons_self)
        have w3 : Cond.initialized yJ9_min_7cf53.cls ∈ xTs := hwl _ (by exact List.mem_cons_of_mem _ (List.mem_cons_of_mem _ List.mem_cons_self))
        have w4 : Cond.code yJ9_min_7cf53 cJ9_min_7cf53 2 (some .int) ∈ xTs := xT_code (List.mem_map.mpr ⟨(yJ9_min_7cf53, cJ9_min_7cf53, 2, some .int, 11), List.mem_of_getElem? (i := 201) rfl, rfl⟩)
        rw [hu1] at w1
        have hx1 : xr32 x := (hst (0, x) (by simp)).1 rfl
        have hy1 : xr32 y2 := (hst (0, y2) (by simp)).1 rfl
        have hr2 : ∀ w ∈ r3, xokv w := fun w hw => hst w (by simp [hw])
        have hz1 : xokv (0, if y2 < x then y2 else x) := by
          refine xok_i ?_
          split
          · exact hy1
          · exact hx1
        have hcode : cJ9_min_7cf53 = Lib.Math.min.code := by decide +kernel
        rw [hcode] at w4
        refine va_mmin hx hb (by rw [hml, hsz]) hown (hts _ w1) (hts _ w2) (hts _ w3) (hts _ w4) (by omega) (by rw [xcats_map]; omega) (by omega) (by omega) (x := Int32.ofInt x) (y := Int32.ofInt y2) hdg ?_
        have hk2 := ih (d' + 1) mi (pc + 3) ls _ g t r g' t' hi p l e R s m args below meth c H locs cells slots Q lsA C hL (fun w hw => by
          rcases List.mem_cons.mp hw with rfl | h
          · exact hz1
          · exact hr2 w h) hH hce hd1 hd2 hcells hslots hE
        have e5 : xcv q (0, if y2 < x then y2 else x) = .int (if Int32.ofInt y2 < Int32.ofInt x then Int32.ofInt y2 else Int32.ofInt x) := by
          rw [xcv_i]
          by_cases hlt : y2 < x
          · rw [if_pos hlt, if_pos ((xlt32 hy1 hx1).mpr hlt)]
          · rw [if_neg hlt, if_neg (fun w => hlt ((xlt32 hy1 hx1).mp w))]
        have hk2 : W p l e R s m args below meth c H locs cells slots Q (F0 m (pc + 3) lsA (xcv q (0, if y2 < x then y2 else x) :: r3.map (xcv q))) := hk2
        rw [e5] at hk2
        exact hk2
      · have e1 : u.2.2.1 = 200 := by omega
        rw [e1, hk1] at hwl
        have w1 : Cond.methodLink u.1 u.2.1 yJ9_abs_067f4 ∈ xTs := hwl _ (by exact List.mem_cons_self)
        have w2 : Cond.static yJ9_abs_067f4 ∈ xTs := hwl _ (by exact List.mem_cons_of_mem _ List.mem_cons_self)
        have w3 : Cond.initialized yJ9_abs_067f4.cls ∈ xTs := hwl _ (by exact List.mem_cons_of_mem _ (List.mem_cons_of_mem _ List.mem_cons_self))
        have w4 : Cond.code yJ9_abs_067f4 cJ9_abs_067f4 2 (some .long) ∈ xTs := xT_code (List.mem_map.mpr ⟨(yJ9_abs_067f4, cJ9_abs_067f4, 2, some .long, 13), List.mem_of_getElem? (i := 200) rfl, rfl⟩)
        rw [hu1] at w1
        have hx1 : xr64 x := (hst (1, x) (by simp)).2 rfl
        have hr2 : ∀ w ∈ r3, xokv w := fun w hw => hst w (by simp [hw])
        have hz1 : xokv (1, if 0 < x then x else xlneg x) := by
          refine xok_l ?_
          split
          · exact hx1
          · exact xr64_of _
        have hcode : cJ9_abs_067f4 = Lib.MathLoose.abs_long.code := by decide +kernel
        rw [hcode] at w4
        refine va_mabs_long hx hb (by rw [hml, hsz]) hown (hts _ w1) (hts _ w2) (hts _ w3) (hts _ w4) (by omega) (by rw [xcats_map]; omega) (by omega) (by omega) (x := Int64.ofInt x) hdg ?_
        have hk2 := ih (d' + 1) mi (pc + 3) ls _ g t r g' t' hi p l e R s m args below meth c H locs cells slots Q lsA C hL (fun w hw => by
          rcases List.mem_cons.mp hw with rfl | h
          · exact hz1
          · exact hr2 w h) hH hce hd1 hd2 hcells hslots hE
        have e5 : xcv q (1, if 0 < x then x else xlneg x) = .long (if 0 < Int64.ofInt x then Int64.ofInt x else -Int64.ofInt x) := by
          rw [xcv_l]
          have h0 : (0 : Int64) = Int64.ofInt 0 := by decide
          by_cases hlt : 0 < x
          · rw [if_pos hlt, if_pos (by rw [h0]; exact (xlt64 ⟨by decide, by decide⟩ hx1).mpr hlt)]
          · rw [if_neg hlt, if_neg (fun w => hlt ((xlt64 ⟨by decide, by decide⟩ hx1).mp (by rw [← h0]; exact w)))]
            unfold xlneg
            rw [Int64.ofInt_toInt]
        have hk2 : W p l e R s m args below meth c H locs cells slots Q (F0 m (pc + 3) lsA (xcv q (1, if 0 < x then x else xlneg x) :: r3.map (xcv q))) := hk2
        rw [e5] at hk2
        exact hk2
    · obtain ⟨u, hu, hu1, hu2, rfl, hkind⟩ := xchk_call hchk h24
      have hum := List.mem_of_getElem? hu
      obtain ⟨d', as, r3, v, g1, t1, rfl, rfl, hlen, hr8, hsp, hrec, h1, h2⟩ := xcal_inv hcal
      have hm1 := xrun_mono _ _ _ _ _ _ _ _ _ _ _ h1
      have hm2 := xrun_mono _ _ _ _ _ _ _ _ _ _ _ h2
      have h202 := xLT_ok u hum
      rw [hu2] at h1 hlen hsp hm
      obtain ⟨y2, hy2⟩ : ∃ y2, xMT[u.2.2.1]? = some y2 := ⟨_, List.getElem?_eq_getElem (by rw [xMT_len]; omega)⟩
      obtain ⟨-, hxml2, hds, h40, -⟩ := xml_ok _ y2 hy2
      have hM := xmet ih l h1 hy2 hm hsp
      have hwl : ∀ w ∈ xwl u, w ∈ xTs := fun w hw => xT_link (List.mem_flatMap.mpr ⟨u, hum, hw⟩)
      unfold xwl at hwl
      rw [hy2] at hwl
      have hwc : Cond.code y2.1 y2.2.1 y2.2.2.1 y2.2.2.2.1 ∈ xTs := xT_code (List.mem_map.mpr ⟨y2, List.mem_of_getElem? (i := u.2.2.1) (by rw [List.getElem?_take_of_lt h202]; exact hy2), rfl⟩)
      have hws : ∀ w ∈ (Cond.code y2.1 y2.2.1 y2.2.2.1 y2.2.2.2.1 :: xTs), w ∈ xTs := fun w hw => by
        rcases List.mem_cons.mp hw with rfl | h
        · exact hwc
        · exact h
      have hokas : ∀ v ∈ as, xokv v := fun v hv => hst v (List.mem_append_left _ (List.mem_reverse.mpr hv))
      have hokr : ∀ v ∈ r3, xokv v := fun v hv => hst v (List.mem_append_right _ hv)
      have hRm : (d' + 1 ≤ R.frames) ∧ 8 + (y2.2.2.1 + 11) + (64 * d' + 64) ≤ R.locals := ⟨hd1, by omega⟩
      have hf : cells + (g1.1.1 - g.1.1) ≤ R.cells ∧ slots + (g1.1.2 - g.1.2) ≤ R.slots := ⟨by omega, by omega⟩
      have hrest : 2 * (F0 m pc lsA ((as.reverse ++ r3).map (xcv q))).monitorRoom + ((r3.map (xcv q)).map fun v => v.category).sum ≤ 8 := by
        rw [xcats_map]
        show 2 * 0 + xcats r3 ≤ 8
        omega
      have hPcU : ∀ U : State, U.heap = H → s.WarmedH U.vm → xPc q cA D L xs as g t ((as.map (xcv q)).toArray) U := fun U hU hW => ⟨rfl, hKn.moved hW (by rw [hU]; exact hH.2.2.1.1) (fun a h1 h2 => by rw [hU]; exact hH.2.2.1.2.1 a h1 h2), by rw [hU]; exact hH.1, by rw [hU]; exact hH.2.1, hH.2.2.2, hokas⟩
      have goon : ∀ (a : Array Value), va_Run p l e R s m args below meth c H locs cells slots (g1.1.1 - g.1.1) (g1.1.2 - g.1.2) (F0 m pc lsA ((as.reverse ++ r3).map (xcv q))) (r3.map (xcv q)) (xQc q cA D L xs v g1 t1 a) (fun a => q.2.2 ≤ a) → W p l e R s m args below meth c H locs cells slots Q (F0 m pc lsA ((as.reverse ++ r3).map (xcv q))) := by
        intro a hrun
        refine xafter hrun hH.2.2.1 (fun H1 locs1 hH1 hv => ?_)
        have e1 : (v.toList ++ r3).map (xcv q) = (v.map (xcv q)).toList ++ r3.map (xcv q) := by cases v <;> rfl
        rw [← e1]
        have hz1 := hH1.1
        have hz0 := hH.1
        refine ih (d' + 1) mi (pc + 3) ls _ g1 t1 r g' t' h2 p l e R s m args below meth c H1 locs1 _ _ Q lsA C hL (fun w hw => ?_) hH1 (by omega) hd1 hd2 (by omega) (by omega) (fun i a pc1 st1 lsB H2 locs2 x1 x2 x3 x4 x5 => ?_)
        · rcases List.mem_append.mp hw with h | h
          · cases v with
            | none => cases h
            | some v =>
              have : w = v := by simpa using h
              subst this
              exact hv _ rfl
          · exact hokr w h
        · have := hE i a pc1 st1 lsB H2 locs2 x1 x2 x3 x4 x5
          have c1 : cells + (g1.1.1 - g.1.1) + (g'.1.1 - g1.1.1) = cells + (g'.1.1 - g.1.1) := by omega
          have c2 : slots + (g1.1.2 - g.1.2) + (g'.1.2 - g1.1.2) = slots + (g'.1.2 - g.1.2) := by omega
          rw [c1, c2]
          exact this
      have hmapst : (as.reverse ++ r3).map (xcv q) = (as.map (xcv q)).reverse ++ r3.map (xcv q) := by simp
      have hS : CallFix p m c y'.2.1 (xml mi) s args xTs y'.1.cls := ⟨hx, hb, hml, hown, hts⟩
      rcases hkind with ⟨rfl, hk, hoc, hvw⟩ | ⟨rfl, hk, hoc⟩ | ⟨rfl, hk, hoc⟩ | ⟨rfl, hk, hoc⟩
      · rw [hoc] at hrec hlen
        obtain ⟨a, as', rfl, hob⟩ := xrecv0 hrec
        have hci : o.2.2.2.2.headD 99 < 10 := by
          rcases Nat.lt_or_ge (o.2.2.2.2.headD 99) 10 with w | w
          · exact w
          · rw [List.getElem?_eq_none (show vwCl.length ≤ _ from w)] at hvw
            cases hvw
        have hcls : xowny u.2.2.1 = y2.1.cls := by unfold xowny; rw [hy2]
        rw [hcls] at hvw
        have hrv := xrecv_ok hKn.1 hH hci hob hvw
        have emap : ((2, Int.ofNat a) :: as').map (xcv q) = .ref (xad q a) :: as'.map (xcv q) := by rw [List.map_cons, xcv_r]
        rw [hk] at hwl
        have hwV : ∀ w ∈ wsV y'.1.cls u.2.1 y2.1.cls y2.1 (Cond.code y2.1 y2.2.1 y2.2.2.1 y2.2.2.2.1 :: xTs), w ∈ xTs := by
          intro w hw
          unfold wsV at hw
          rcases List.mem_append.mp hw with h | h
          · rw [← hu1] at h
            exact hwl w h
          · exact hws w h
        refine goon _ (va_runV (As := as'.map (xcv q)) (b := xad q a) hS hM (cwV (Ts := xTs) (xnp u.2.2.1) hts (xGood hwV (fun _ h => h)) rfl rfl rfl ⟨rfl, hds⟩ hRm) ⟨xPc_blind, hrv, fun U hU hW => ?_⟩ rfl ?_ hsz ?_ hrest hdg hf)
        · have := hPcU U hU hW
          rwa [emap] at this
        · simp at hlen ⊢
          omega
        · show ((((2, Int.ofNat a) :: as').reverse ++ r3).map (xcv q)) = _
          rw [hmapst, emap]
          simp
      · rw [hoc] at hlen
        rw [hk] at hwl
        have hwS : ∀ w ∈ va_wsS y'.1.cls u.2.1 y2.1 (Cond.code y2.1 y2.2.1 y2.2.2.1 y2.2.2.2.1 :: xTs), w ∈ xTs := by
          intro w hw
          unfold va_wsS at hw
          rcases List.mem_append.mp hw with h | h
          · rw [← hu1] at h
            exact hwl w h
          · exact hws w h
        refine goon _ (va_runS (As := as.map (xcv q)) hS hM (va_cwS (Ts := xTs) (xnp u.2.2.1) hts (xGood hwS (fun _ h => h)) rfl rfl rfl hds hRm) ⟨xPc_blind, hPcU⟩ rfl ?_ hsz hmapst hrest hdg hf)
        simp at hlen ⊢
        omega
      · rw [hoc] at hrec hlen
        obtain ⟨a, as', rfl⟩ := xrecv2 (.inl rfl) hrec
        have emap : ((2, Int.ofNat a) :: as').map (xcv q) = .ref (xad q a) :: as'.map (xcv q) := by rw [List.map_cons, xcv_r]
        have hin := xLT_init u hum (.inl hk)
        rw [hy2] at hin
        obtain ⟨hnm, hrt⟩ := of_decide_eq_true hin
        rw [hk] at hwl
        have w1 : Cond.methodLink y'.1.cls u.2.1 y2.1 ∈ xTs := by rw [← hu1]; exact hwl _ (by exact List.mem_cons_self)
        have w2 : Cond.instanceMethod y2.1 ∈ xTs := hwl _ (by exact List.mem_cons_of_mem _ List.mem_cons_self)
        have w3 : Cond.initialized y2.1.cls ∈ xTs := hwl _ (by exact List.mem_cons_of_mem _ (List.mem_cons_of_mem _ List.mem_cons_self))
        refine goon _ (va_runI (As := as'.map (xcv q)) (b := xad q a) (bytes := y2.2.1) (maxL := y2.2.2.1) hS hM (cwI (ws' := xTs) (xnp u.2.2.1) hts (xGood hws (fun _ h => h)) (by rw [hrt]) rfl rfl (hts _ w3) (hts _ w1) (hts _ w2) hnm hds hRm) ⟨xPc_blind, fun U hU hW => ?_⟩ rfl ?_ hsz ?_ hrest hdg hf)
        · have := hPcU U hU hW
          rwa [emap] at this
        · simp at hlen ⊢
          omega
        · show ((((2, Int.ofNat a) :: as').reverse ++ r3).map (xcv q)) = _
          rw [hmapst, emap]
          simp
      · rw [hoc] at hrec hlen
        obtain ⟨a, as', rfl⟩ := xrecv2 (.inr rfl) hrec
        have emap : ((2, Int.ofNat a) :: as').map (xcv q) = .ref (xad q a) :: as'.map (xcv q) := by rw [List.map_cons, xcv_r]
        have hin := xLT_init u hum (.inr hk)
        rw [hy2] at hin
        obtain ⟨hnm, hrt⟩ := of_decide_eq_true hin
        rw [hk] at hwl
        have w2 : Cond.instanceMethod y2.1 ∈ xTs := hwl _ (by exact List.mem_cons_self)
        have w3 : Cond.initialized y2.1.cls ∈ xTs := hwl _ (by exact List.mem_cons_of_mem _ List.mem_cons_self)
        have hnw : va_Nw (.methodLinkNest y'.1.cls u.2.1 y2.1 RX8) s := by
          refine hKn.2.2.2.2.2.2.2.1 _ ?_
          unfold xNs
          refine List.mem_filterMap.mpr ⟨u, hum, ?_⟩
          rw [if_pos hk, hy2, hu1]
        refine goon _ (va_runIN (As := as'.map (xcv q)) (b := xad q a) hS hM ⟨va_cnB (bytes := y2.2.1) (maxL := y2.2.2.1) (ret := none) (ws' := xTs) (xnp u.2.2.1) hts (xGood hws (fun _ h => h)) (by rw [hrt]) rfl rfl hnw (hts _ w3) hds hRm, hnm, hts _ w2⟩ ⟨xPc_blind, fun U hU hW => ?_⟩ rfl ?_ hsz ?_ hrest hdg hf)
        · have := hPcU U hU hW
          rwa [emap] at this
        · simp at hlen ⊢
          omega
        · show ((((2, Int.ofNat a) :: as').reverse ++ r3).map (xcv q)) = _
          rw [hmapst, emap]
          simp
    · have hm1 := xstep_mono hs
      have hm2 := xrun_mono _ _ _ _ _ _ _ _ _ _ _ hi
      refine xsim_step C hc hs hL hst hH hce ⟨hd1, hd2⟩ (by omega) (by omega) (fun lsB H1 locs1 hL1 hst1 hH1 hz1 => ?_)
      refine ih d mi z.1 z.2.1 z.2.2.1 z.2.2.2.1 z.2.2.2.2 r g' t' hi p l e R s m args below meth c H1 locs1 _ _ Q lsB C hL1 hst1 hH1 hz1 hd1 hd2 (by omega) (by omega) (fun i a pc1 st1 lsB H2 locs2 x1 x2 x3 x4 x5 => ?_)
      have := hE i a pc1 st1 lsB H2 locs2 x1 x2 x3 x4 x5
      have c1 : cells + (z.2.2.2.1.1.1 - g.1.1) + (g'.1.1 - z.2.2.2.1.1.1) = cells + (g'.1.1 - g.1.1) := by omega
      have c2 : slots + (z.2.2.2.1.1.2 - g.1.2) + (g'.1.2 - z.2.2.2.1.1.2) = slots + (g'.1.2 - g.1.2) := by omega
      rw [c1, c2]
      exact this
