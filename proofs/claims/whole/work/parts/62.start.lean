/-! THE LAW: ITS START -/
theorem LR.start {Z : Nat → Int} {n : Nat} {T : xD} (hD : ∀ z ∈ xTDL, T z.1 z.2.1 = z.2.2) (hZ0 : ∀ z ∈ xTZL, T z.1 z.2 = 0) (h1 : ∀ d, d < 4 → T 301 d = 0) (h2 : ∀ d, d < 4 → T 302 d = 0) (a0 : ∀ j, j < n → T 0 j = Z j) (a1 : ∀ j, j < 4 → T 1 j = if j = 0 then -1 else if j = 3 then 1 else 0) : LR Z n T T := by
  have z : ∀ a k, (a, k) ∈ xTZL → T a k = 0 := fun a k h => hZ0 (a, k) h
  have v : ∀ a k x, (a, k, x) ∈ xTDL → T a k = x := fun a k x h => hD (a, k, x) h
  have k3 : ∀ d, d < 4 → T 300 d = 0 := fun d hd => by
    rcases (by omega : d = 0 ∨ d = 1 ∨ d = 2 ∨ d = 3) with rfl | rfl | rfl | rfl <;> exact z 300 _ (by decide)
  have no : sCom T = -1 := by
    have r := sCom_rng (m := T)
    by_cases c : sCom T = -1
    · exact c
    · have a := (sCom_at c).1
      rw [k3 _ (by omega)] at a
      omega
  have n0 : nN T = 0 := by
    unfold nN
    rw [z 292 0 (by decide)]
    rfl
  have hR : Rep T 0 T := by
    refine ⟨⟨(z 5 6 (by decide)).trans (z 292 0 (by decide)).symm, (z 5 7 (by decide)).trans (z 292 6 (by decide)).symm, (z 5 8 (by decide)).trans (sRec_0 (Or.inl no)).1.symm, (z 5 9 (by decide)).trans (sRec_0 (Or.inl no)).2.symm, (z 5 10 (by decide)).trans (z 292 14 (by decide)).symm⟩, fun e => absurd e (by rw [z 292 14 (by decide)]; decide), fun n hn => absurd hn (by rw [n0]; omega), fun n hn => absurd hn (by rw [n0]; omega), fun d hd => ⟨?_, fun hk => absurd hk (by rw [k3 d hd]; decide)⟩, ⟨v 8 2 5 (by decide), (z 8 3 (by decide)).trans (z 292 19 (by decide)).symm, fun i hi => absurd hi (by rw [z 292 19 (by decide)]; omega)⟩, ⟨v 11 2 10 (by decide), (z 11 3 (by decide)).trans (z 292 22 (by decide)).symm, fun i hi => absurd hi (by rw [z 292 22 (by decide)]; omega)⟩, ⟨v 14 2 8 (by decide), (z 14 3 (by decide)).trans (z 292 25 (by decide)).symm, fun i hi => absurd hi (by rw [z 292 25 (by decide)]; omega)⟩⟩
    unfold sPha
    rw [if_pos (k3 d hd)]
    rcases (by omega : d = 0 ∨ d = 1 ∨ d = 2 ∨ d = 3) with rfl | rfl | rfl | rfl
    · exact v 78 5 (-1) (by decide)
    · exact v 82 5 (-1) (by decide)
    · exact v 86 5 (-1) (by decide)
    · exact v 90 5 (-1) (by decide)
  have hI : Inv T := ⟨by rw [z 292 0 (by decide)]; decide, fun n hn => absurd hn (by rw [n0]; omega), fun n hn => absurd hn (by rw [n0]; omega), fun d hd => by rw [k3 d hd, h1 d hd, h2 d hd]; decide, fun d r hd hk => absurd hk (by rw [k3 d hd]; decide), fun d r q hd hk => absurd hk (by rw [k3 d hd]; decide), fun d e hd he h => absurd h.1 (by rw [k3 d hd]; decide), fun d hd h => absurd h.1 (by rw [k3 d hd]; decide), Or.inl (z 292 14 (by decide)), ⟨by rw [z 292 19 (by decide)]; decide, by rw [z 292 19 (by decide)]; decide, fun i hi => absurd hi (by rw [z 292 19 (by decide)]; omega)⟩, ⟨by rw [z 292 22 (by decide)]; decide, by rw [z 292 22 (by decide)]; decide, fun i hi => absurd hi (by rw [z 292 22 (by decide)]; omega)⟩, ⟨by rw [z 292 25 (by decide)]; decide, by rw [z 292 25 (by decide)]; decide, fun i hi => absurd hi (by rw [z 292 25 (by decide)]; omega)⟩, fun a b ha => absurd ha (by rw [n0]; omega)⟩
  refine ⟨fun a k _ => rfl, hR, hI, ⟨by rw [z 292 17 (by decide)]; decide, by rw [z 292 17 (by decide)]; decide, fun i hi => absurd hi (by rw [z 292 17 (by decide)]; omega)⟩, ⟨(z 3 1 (by decide)).trans (z 292 17 (by decide)).symm, fun i hi => absurd hi (by rw [z 292 17 (by decide)]; omega)⟩, fun k hk => ?_, fun k hk => ?_, ⟨v 97 2 5 (by decide), v 100 2 10 (by decide), v 103 2 8 (by decide)⟩, ⟨v 186 2 5 (by decide), v 189 2 10 (by decide), v 192 2 8 (by decide)⟩, ⟨(z 2 6 (by decide)).trans (z 292 28 (by decide)).symm, Or.inl (z 292 28 (by decide)), fun e => absurd e (by rw [z 292 28 (by decide)]; decide)⟩, a0, a1⟩
  · rcases (by omega : k = 0 ∨ k = 1 ∨ k = 2 ∨ k = 3 ∨ k = 4 ∨ k = 5) with rfl | rfl | rfl | rfl | rfl | rfl
    · exact ⟨(v 280 1 (-1) (by decide)).trans (v 316 0 (-1) (by decide)).symm, (z 280 2 (by decide)).trans (z 317 0 (by decide)).symm, fun i hi => absurd hi (by rw [z 317 0 (by decide)]; omega)⟩
    · exact ⟨(v 282 1 (-1) (by decide)).trans (v 316 1 (-1) (by decide)).symm, (z 282 2 (by decide)).trans (z 317 1 (by decide)).symm, fun i hi => absurd hi (by rw [z 317 1 (by decide)]; omega)⟩
    · exact ⟨(v 284 1 (-1) (by decide)).trans (v 316 2 (-1) (by decide)).symm, (z 284 2 (by decide)).trans (z 317 2 (by decide)).symm, fun i hi => absurd hi (by rw [z 317 2 (by decide)]; omega)⟩
    · exact ⟨(v 286 1 (-1) (by decide)).trans (v 316 3 (-1) (by decide)).symm, (z 286 2 (by decide)).trans (z 317 3 (by decide)).symm, fun i hi => absurd hi (by rw [z 317 3 (by decide)]; omega)⟩
    · exact ⟨(v 288 1 (-1) (by decide)).trans (v 316 4 (-1) (by decide)).symm, (z 288 2 (by decide)).trans (z 317 4 (by decide)).symm, fun i hi => absurd hi (by rw [z 317 4 (by decide)]; omega)⟩
    · exact ⟨(v 290 1 (-1) (by decide)).trans (v 316 5 (-1) (by decide)).symm, (z 290 2 (by decide)).trans (z 317 5 (by decide)).symm, fun i hi => absurd hi (by rw [z 317 5 (by decide)]; omega)⟩
  · rcases (by omega : k = 0 ∨ k = 1 ∨ k = 2 ∨ k = 3 ∨ k = 4 ∨ k = 5) with rfl | rfl | rfl | rfl | rfl | rfl
    · rw [v 316 0 (-1) (by decide), z 317 0 (by decide)]; decide
    · rw [v 316 1 (-1) (by decide), z 317 1 (by decide)]; decide
    · rw [v 316 2 (-1) (by decide), z 317 2 (by decide)]; decide
    · rw [v 316 3 (-1) (by decide), z 317 3 (by decide)]; decide
    · rw [v 316 4 (-1) (by decide), z 317 4 (by decide)]; decide
    · rw [v 316 5 (-1) (by decide), z 317 5 (by decide)]; decide
def xchkD (r : xRes) : Bool := match r with
  | some (_, _, t) => (List.range 4).all (fun d => decide (t 301 d = 0) && decide (t 302 d = 0) && decide (t 1 d = if d = 0 then -1 else if d = 3 then 1 else 0))
  | none => false
theorem xR2_D : xchkD xR2 = true := by decide +kernel
theorem xg0_rb {L : Nat} : xrb L (xg0 0) = xg0 L := by
  refine Prod.ext rfl (Prod.ext (funext fun a => ?_) rfl)
  show (if a = 0 then (20, L) else if a = 0 then (20, 0) else if a = 1 then (20, 4) else (0, 0)) = (if a = 0 then (20, L) else if a = 1 then (20, 4) else (0, 0))
  by_cases c : a = 0
  · rw [if_pos c, if_pos c]
  · rw [if_neg c, if_neg c, if_neg c]
theorem xt0_rt {L : Nat} {xs : Nat → Int32} : xrt L xs (xt0 0 (fun _ => 0)) = xt0 L xs := by
  funext a j
  show (if a = 0 then xt0 L xs 0 j else xt0 0 (fun _ => 0) a j) = xt0 L xs a j
  by_cases c : a = 0
  · subst c
    rfl
  · rw [if_neg c]
    show (if a = 0 then _ else if a = 1 then (if j < 4 then (xkv j).toInt else 0) else 0) = (if a = 0 then _ else if a = 1 then (if j < 4 then (xkv j).toInt else 0) else 0)
    rw [if_neg c, if_neg c]
theorem law_run {L : Nat} {xs : Nat → Int32} (hL : L ≤ 3072) : xOk 30 202 0 (xenter [(2, ((0 : Nat) : Int))] 4) [] (xg0 L) (xt0 L xs) (fun r g1 _ => r = some (0, 1) ∧ g1.1.1 ≤ 600000 ∧ g1.1.2 ≤ 7302250) := by
  obtain ⟨gA, tA, hA, hA1, hA0⟩ : ∃ gA tA, xR1 = some (none, gA, tA) ∧ gA.1.1 = 290 ∧ gA.2.1 0 = (20, 0) := by
    have h := xR1_ok
    cases e : xR1 with
    | none =>
      rw [e] at h
      cases h
    | some q =>
      obtain ⟨r, g, t⟩ := q
      rw [e] at h
      simp only [Bool.and_eq_true, decide_eq_true_eq] at h
      exact ⟨g, t, by rw [h.1.1], h.1.2, h.2⟩
  have hB : xR2 = xrun 4000 29 114 0 (xenter [(2, ((292 : Nat) : Int))] (xml 114)) [] (xnew gA 9 42) tA := by
    unfold xR2
    rw [hA]
  obtain ⟨gC, tC, hC, hC1, hC2, hC3, hC4, hC5, hC6⟩ : ∃ gC tC, xR2 = some (none, gC, tC) ∧ gC.1 = (317, 4243) ∧ (∀ a, a < 319 → gC.2.1 a = xSHL.getD a (0, 0)) ∧ (∀ z ∈ xPTL, gC.2.2 z.1 z.2.1 = ((z.2.2 : Nat) : Int)) ∧ (∀ z ∈ xTDL, tC z.1 z.2.1 = z.2.2) ∧ (∀ z ∈ xTZL, tC z.1 z.2 = 0) ∧ (∀ d, d < 4 → tC 301 d = 0 ∧ tC 302 d = 0 ∧ tC 1 d = if d = 0 then -1 else if d = 3 then 1 else 0) := by
    have h1 := xR2_A
    have h2 := xR2_B
    have h3 := xR2_C
    have h4 := xR2_D
    cases e : xR2 with
    | none =>
      rw [e] at h1
      cases h1
    | some q =>
      obtain ⟨r, g, t⟩ := q
      rw [e] at h1 h2 h3 h4
      unfold xchkA at h1
      unfold xchkB at h2
      unfold xchkC at h3
      unfold xchkD at h4
      simp only [Bool.and_eq_true, decide_eq_true_eq] at h1 h3
      refine ⟨g, t, by rw [h1.1.1], h1.1.2, fun a ha => of_decide_eq_true (xball h1.2 ha), fun z hz => of_decide_eq_true (List.all_eq_true.mp h2 z hz), fun z hz => of_decide_eq_true (List.all_eq_true.mp h3.1 z hz), fun z hz => of_decide_eq_true (List.all_eq_true.mp h3.2 z hz), fun d hd => ?_⟩
      have q := xball h4 hd
      simp only [Bool.and_eq_true, decide_eq_true_eq] at q
      exact ⟨q.1.1, q.1.2, q.2⟩
  rw [hB] at hC
  unfold xR1 at hA
  obtain ⟨E1, _⟩ := xrun_rb L xs _ _ _ _ _ _ _ _ _ _ _ (by decide) rfl hA
  obtain ⟨E2, F2⟩ := xrun_rb L xs _ _ _ _ _ _ _ _ _ _ _ (by decide) (show (xnew gA 9 42).2.1 0 = (20, 0) by
    show (if 0 = gA.1.1 + 2 then (9, 42) else gA.2.1 0) = (20, 0)
    rw [if_neg (by omega)]
    exact hA0) hC
  rw [xrb_new, xg0_rb, xt0_rt] at E1
  rw [xrb_new] at E2
  have C1 : xCall 29 68 [(2, ((2 : Nat) : Int))] (xnew (xg0 L) 8 7) (xt0 L xs) (fun r g1 t1 => r = none ∧ g1 = xrb L gA ∧ t1 = xrt L xs tA) := ⟨_, _, _, _, E1, rfl, rfl, rfl⟩
  have C2 : xCall 29 114 [(2, ((292 : Nat) : Int))] (xnew (xrb L gA) 9 42) (xrt L xs tA) (fun r g1 t1 => r = none ∧ g1 = xrb L gC ∧ t1 = xrt L xs tC) := ⟨_, _, _, _, E2, rfl, rfl, rfl⟩
  show xOk 30 202 0 [(2, ((0 : Nat) : Int)), (3, 0), (3, 0), (3, 0)] [] (xg0 L) (xt0 L xs) _
  refine xk_step (z := (3, [(2, ((0 : Nat) : Int)), (3, 0), (3, 0), (3, 0)], [(2, ((2 : Nat) : Int))], xnew (xg0 L) 8 7, xt0 L xs)) rfl (by decide) (by decide) rfl ?_
  refine xk_dup rfl (p := 4) rfl (show ¬ (2 : Nat) = 1 by decide) ?_
  refine xk_call rfl (p := 7) rfl (by decide) rfl (Nat.le_of_ble_eq_true rfl) (Nat.le_of_ble_eq_true rfl) (rfl) (as := [(2, ((2 : Nat) : Int))]) (r := [(2, ((2 : Nat) : Int))]) rfl C1 ?_
  rintro _ g1 t1 ⟨rfl, rfl, rfl⟩
  refine xk_store rfl (p := 8) rfl (by decide) (Nat.le_of_ble_eq_true rfl) (ls' := [(2, ((0 : Nat) : Int)), (2, ((2 : Nat) : Int)), (3, 0), (3, 0)]) rfl ?_
  refine xk_step (z := (11, [(2, ((0 : Nat) : Int)), (2, ((2 : Nat) : Int)), (3, 0), (3, 0)], [(2, ((292 : Nat) : Int))], xnew (xrb L gA) 9 42, xrt L xs tA)) rfl (by decide) (by decide) (by
    show some (11, [(2, ((0 : Nat) : Int)), (2, ((2 : Nat) : Int)), (3, 0), (3, 0)], [(2, ((gA.1.1 + 2 : Nat) : Int))], xnew (xrb L gA) 9 42, xrt L xs tA) = _
    rw [hA1]) ?_
  refine xk_dup rfl (p := 12) rfl (show ¬ (2 : Nat) = 1 by decide) ?_
  refine xk_call rfl (p := 15) rfl (by decide) rfl (Nat.le_of_ble_eq_true rfl) (Nat.le_of_ble_eq_true rfl) (rfl) (as := [(2, ((292 : Nat) : Int))]) (r := [(2, ((292 : Nat) : Int))]) rfl C2 ?_
  rintro _ g2 t2 ⟨rfl, rfl, rfl⟩
  refine xk_store rfl (p := 16) rfl (by decide) (Nat.le_of_ble_eq_true rfl) (ls' := [(2, ((0 : Nat) : Int)), (2, ((2 : Nat) : Int)), (2, ((292 : Nat) : Int)), (3, 0)]) rfl ?_
  refine xk_push rfl (p := 17) rfl ?_
  refine xk_store rfl (p := 18) rfl (by decide) (Nat.le_of_ble_eq_true rfl) (ls' := [(2, ((0 : Nat) : Int)), (2, ((2 : Nat) : Int)), (2, ((292 : Nat) : Int)), (0, 0)]) rfl ?_
  have hA9 : (xrb L gC).2.1 0 = (20, L) := by
    show (if (0 : Nat) = 0 then (20, L) else gC.2.1 0) = (20, L)
    rw [if_pos rfl]
  have ne : ∀ a k, a ≠ 0 → xrt L xs tC a k = tC a k := fun a k h => xrt_ne h
  have tz : ∀ z ∈ xTZL, z.1 ≠ 0 := by decide
  have td : ∀ z ∈ xTDL, z.1 ≠ 0 := by decide
  refine law_loop (g := xrb L gC) (Z := fun j => (xs j).toInt) (N0 := L) ⟨fun a h1 h2 => (xrb_ne (by omega)).trans (hC2 a h2), fun z hz => hC3 z (List.contains_iff_mem.mp hz)⟩ hL hA9 (fun j => xr32_of _) ?_ (m := xrt L xs tC) (LR.start (fun z hz => (ne _ _ (td z hz)).trans (hC4 z hz)) (fun z hz => (ne _ _ (tz z hz)).trans (hC5 z hz)) (fun d hd => (ne _ _ (by decide)).trans (hC6 d hd).1) (fun d hd => (ne _ _ (by decide)).trans (hC6 d hd).2.1) (fun j hj => ?_) (fun d hd => (ne _ _ (by decide)).trans (hC6 d hd).2.2))
  · show gC.1.1 ≤ 600000 ∧ gC.1.2 ≤ 7302250
    rw [hC1]
    decide
  · show (if (0 : Nat) = 0 then (if j < L then (xs j).toInt else 0) else _) = (xs j).toInt
    rw [if_pos rfl, if_pos hj]
theorem hrun_all : ∀ (L : Nat) (xs : Nat → Int32), L ≤ 3072 → ∃ (n : Nat) (g' : xG) (t' : xD), xrun n 30 202 0 (xenter [(2, ((0 : Nat) : Int))] 4) [] (xg0 L) (xt0 L xs) = some (some (0, 1), g', t') ∧ g'.1.1 ≤ 600000 ∧ g'.1.2 ≤ 7302250 := fun L xs hL => by
  obtain ⟨n, r, g', t', h, rfl, h1, h2⟩ := law_run (L := L) (xs := xs) hL
  exact ⟨n, g', t', h, h1, h2⟩
