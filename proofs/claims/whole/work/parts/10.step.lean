/-! THE STEP, instruction by instruction -/
theorem xs1_inv {i tg pc : Nat} {ls st : List xV} {g : xG} {t : xD} {z : xSt} (h : xs1 i tg pc ls st g t = some z) : ∃ v, ls[i]? = some v ∧ v.1 = tg ∧ z = (pc, ls, v :: st, g, t) := by
  unfold xs1 at h
  cases hl : ls[i]? with
  | none => rw [hl] at h; cases h
  | some v =>
    rw [hl] at h
    by_cases e : v.1 = tg
    · have h : (if v.1 = tg then some (pc, ls, v :: st, g, t) else none) = some z := h
      rw [if_pos e] at h
      exact ⟨v, rfl, e, (Option.some.inj h).symm⟩
    · have h : (if v.1 = tg then some (pc, ls, v :: st, g, t) else none) = some z := h
      rw [if_neg e] at h; cases h
theorem xs2_inv {i tg pc : Nat} {ls st : List xV} {g : xG} {t : xD} {z : xSt} (h : xs2 i tg pc ls st g t = some z) : ∃ v r, st = v :: r ∧ v.1 = tg ∧ i + xcat v ≤ ls.length ∧ z = (pc, (if v.1 = 1 then xset (xset ls (i + 1) (3, 0)) i v else xset ls i v), r, g, t) := by
  match st, h with
  | [], h => cases h
  | v :: r, h =>
    by_cases e : v.1 = tg ∧ i + xcat v ≤ ls.length
    · have h : (if v.1 = tg ∧ i + xcat v ≤ ls.length then some (pc, (if v.1 = 1 then xset (xset ls (i + 1) (3, 0)) i v else xset ls i v), r, g, t) else none) = some z := h
      rw [if_pos e] at h
      exact ⟨v, r, rfl, e.1, e.2, (Option.some.inj h).symm⟩
    · have h : (if v.1 = tg ∧ i + xcat v ≤ ls.length then some (pc, (if v.1 = 1 then xset (xset ls (i + 1) (3, 0)) i v else xset ls i v), r, g, t) else none) = some z := h
      rw [if_neg e] at h; cases h
theorem xs3_inv {i pc : Nat} {n : Int} {ls st : List xV} {g : xG} {t : xD} {z : xSt} (h : xs3 i n pc ls st g t = some z) : ∃ x, ls[i]? = some (0, x) ∧ z = (pc, xset ls i (0, xadd x n), st, g, t) := by
  unfold xs3 at h
  cases hl : ls[i]? with
  | none => rw [hl] at h; cases h
  | some v =>
    rw [hl] at h
    by_cases e : v.1 = 0
    · have h : (if v.1 = 0 then some (pc, xset ls i (0, xadd v.2 n), st, g, t) else none) = some z := h
      rw [if_pos e] at h
      obtain ⟨k, x⟩ := v
      have e : k = 0 := e
      subst e
      exact ⟨x, rfl, (Option.some.inj h).symm⟩
    · have h : (if v.1 = 0 then some (pc, xset ls i (0, xadd v.2 n), st, g, t) else none) = some z := h
      rw [if_neg e] at h; cases h
theorem xs4_inv {k pc : Nat} {ls st : List xV} {g : xG} {t : xD} {z : xSt} (h : xs4 k pc ls st g t = some z) : ∃ y x r w, st = (0, y) :: (0, x) :: r ∧ xbin k x y = some w ∧ z = (pc, ls, (0, w) :: r, g, t) := by
  unfold xs4 at h
  split at h
  · split at h
    · exact ⟨_, _, _, _, rfl, by assumption, (Option.some.inj h).symm⟩
    · cases h
  · cases h

theorem xs5_inv {k pc : Nat} {ls st : List xV} {g : xG} {t : xD} {z : xSt} (h : xs5 k pc ls st g t = some z) : ∃ v r w, st = v :: r ∧ xun k v = some w ∧ z = (pc, ls, w :: r, g, t) := by
  unfold xs5 at h
  split at h
  · split at h
    · exact ⟨_, _, _, rfl, by assumption, (Option.some.inj h).symm⟩
    · cases h
  · cases h

theorem xs6_inv {k pc : Nat} {ls st : List xV} {g : xG} {t : xD} {z : xSt} (h : xs6 k pc ls st g t = some z) : ∃ b y x r w, st = (b, y) :: (1, x) :: r ∧ b = (if k = 6 ∨ k = 7 then 0 else 1) ∧ xlbin k x y = some w ∧ z = (pc, ls, w :: r, g, t) := by
  match st, h with
  | (b, y) :: (1, x) :: r, h =>
    by_cases e : b = (if k = 6 ∨ k = 7 then 0 else 1)
    · have h : (if b = (if k = 6 ∨ k = 7 then 0 else 1) then (match xlbin k x y with
        | some z => some (pc, ls, z :: r, g, t)
        | none => none) else none) = some z := h
      rw [if_pos e] at h
      cases hw : xlbin k x y with
      | none => rw [hw] at h; cases h
      | some w => rw [hw] at h; exact ⟨b, y, x, r, w, rfl, e, hw, (Option.some.inj h).symm⟩
    · have h : (if b = (if k = 6 ∨ k = 7 then 0 else 1) then (match xlbin k x y with
        | some z => some (pc, ls, z :: r, g, t)
        | none => none) else none) = some z := h
      rw [if_neg e] at h
      cases h
  | [], h => cases h
  | [_], h => cases h
  | _ :: (0, _) :: _, h => cases h
  | _ :: (_ + 2, _) :: _, h => cases h
theorem xs7_inv {k tgt pc : Nat} {ls st : List xV} {g : xG} {t : xD} {z : xSt} (h : xs7 k tgt pc ls st g t = some z) : ∃ x r, st = (0, x) :: r ∧ z = (if xcondb k x 0 = true then tgt else pc, ls, r, g, t) := by
  unfold xs7 at h
  split at h
  · exact ⟨_, _, rfl, (Option.some.inj h).symm⟩
  · cases h

theorem xs8_inv {k tgt pc : Nat} {ls st : List xV} {g : xG} {t : xD} {z : xSt} (h : xs8 k tgt pc ls st g t = some z) : ∃ y x r, st = (0, y) :: (0, x) :: r ∧ z = (if xcondb k x y = true then tgt else pc, ls, r, g, t) := by
  unfold xs8 at h
  split at h
  · exact ⟨_, _, _, rfl, (Option.some.inj h).symm⟩
  · cases h

theorem xs11_inv {pc : Nat} {ls st : List xV} {g : xG} {t : xD} {z : xSt} (h : xs11 pc ls st g t = some z) : ∃ v r, st = v :: r ∧ ¬ v.1 = 1 ∧ z = (pc, ls, v :: v :: r, g, t) := by
  unfold xs11 at h
  split at h
  · split at h
    · cases h
    · exact ⟨_, _, rfl, by assumption, (Option.some.inj h).symm⟩
  · cases h
theorem xs12_inv {pc : Nat} {ls st : List xV} {g : xG} {t : xD} {z : xSt} (h : xs12 pc ls st g t = some z) : ∃ v r, st = v :: r ∧ ¬ v.1 = 1 ∧ z = (pc, ls, r, g, t) := by
  unfold xs12 at h
  split at h
  · split at h
    · cases h
    · exact ⟨_, _, rfl, by assumption, (Option.some.inj h).symm⟩
  · cases h
theorem xs13_inv {pc : Nat} {ls st : List xV} {g : xG} {t : xD} {z : xSt} (h : xs13 pc ls st g t = some z) : ∃ v w r, st = v :: w :: r ∧ ¬ (v.1 = 1 ∨ w.1 = 1) ∧ z = (pc, ls, v :: w :: v :: r, g, t) := by
  unfold xs13 at h
  split at h
  · split at h
    · cases h
    · exact ⟨_, _, _, rfl, by assumption, (Option.some.inj h).symm⟩
  · cases h
theorem xs14_inv {pc : Nat} {ls st : List xV} {g : xG} {t : xD} {z : xSt} (h : xs14 pc ls st g t = some z) : ∃ v w r, st = v :: w :: r ∧ ¬ (v.1 = 1 ∨ w.1 = 1) ∧ z = (pc, ls, v :: w :: v :: w :: r, g, t) := by
  unfold xs14 at h
  split at h
  · split at h
    · cases h
    · exact ⟨_, _, _, rfl, by assumption, (Option.some.inj h).symm⟩
  · cases h
theorem xs10_inv {dflt : Nat} {lo : Int} {ts : List Nat} {ls st : List xV} {g : xG} {t : xD} {z : xSt} (h : xs10 dflt lo ts ls st g t = some z) : ∃ x r, st = (0, x) :: r ∧ (((x < lo ∨ lo + (ts.length : Int) ≤ x) ∧ z = (dflt, ls, r, g, t)) ∨ (¬ (x < lo ∨ lo + (ts.length : Int) ≤ x) ∧ ∃ w, ts[(x - lo).toNat]? = some w ∧ z = (w, ls, r, g, t))) := by
  unfold xs10 at h
  split at h
  · split at h
    · exact ⟨_, _, rfl, .inl ⟨by assumption, (Option.some.inj h).symm⟩⟩
    · split at h
      · exact ⟨_, _, rfl, .inr ⟨by assumption, _, by assumption, (Option.some.inj h).symm⟩⟩
      · cases h
  · cases h
theorem xs15_inv {ci k pc : Nat} {ls st : List xV} {g : xG} {t : xD} {z : xSt} (h : xs15 ci k pc ls st g t = some z) : ∃ a r, st = (2, Int.ofNat a) :: r ∧ xobj g a ci k ∧ z = (pc, ls, xslot g t a ci k :: r, g, t) := by
  unfold xs15 at h
  split at h
  · split at h
    · exact ⟨_, _, rfl, by assumption, (Option.some.inj h).symm⟩
    · cases h
  · cases h

theorem xs16_inv {mi ci k pc : Nat} {ls st : List xV} {g : xG} {t : xD} {z : xSt} (h : xs16 mi ci k pc ls st g t = some z) : ∃ v a r w, st = v :: (2, Int.ofNat a) :: r ∧ xput mi ci k a v g t = some w ∧ z = (pc, ls, r, w.1, w.2) := by
  unfold xs16 at h
  split at h
  · split at h
    · exact ⟨_, _, _, _, rfl, by assumption, (Option.some.inj h).symm⟩
    · cases h
  · cases h

theorem xs17_inv {kd pc : Nat} {ls st : List xV} {g : xG} {t : xD} {z : xSt} (h : xs17 kd pc ls st g t = some z) : ∃ i a r v, st = (0, i) :: (2, Int.ofNat a) :: r ∧ xald kd a i g t = some v ∧ z = (pc, ls, v :: r, g, t) := by
  unfold xs17 at h
  split at h
  · split at h
    · exact ⟨_, _, _, _, rfl, by assumption, (Option.some.inj h).symm⟩
    · cases h
  · cases h

theorem xs18_inv {kd pc : Nat} {ls st : List xV} {g : xG} {t : xD} {z : xSt} (h : xs18 kd pc ls st g t = some z) : ∃ v i a r w, st = v :: (0, i) :: (2, Int.ofNat a) :: r ∧ xast kd a i v g t = some w ∧ z = (pc, ls, r, w.1, w.2) := by
  unfold xs18 at h
  split at h
  · split at h
    · exact ⟨_, _, _, _, _, rfl, by assumption, (Option.some.inj h).symm⟩
    · cases h
  · cases h

theorem xs19_inv {pc : Nat} {ls st : List xV} {g : xG} {t : xD} {z : xSt} (h : xs19 pc ls st g t = some z) : ∃ r, st = (2, Int.ofNat 0) :: r ∧ z = (pc, ls, (0, (((g.2.1 0).2 : Nat) : Int)) :: r, g, t) := by
  unfold xs19 at h
  split at h
  · exact ⟨_, rfl, (Option.some.inj h).symm⟩
  · cases h

theorem xs21_inv {kd pc : Nat} {ls st : List xV} {g : xG} {t : xD} {z : xSt} (h : xs21 kd pc ls st g t = some z) : ∃ n r, st = (0, Int.ofNat n) :: r ∧ n ≤ 1000 ∧ z = (pc, ls, (2, ((g.1.1 + 2 : Nat) : Int)) :: r, xnew g kd n, t) := by
  unfold xs21 at h
  split at h
  · split at h
    · exact ⟨_, _, rfl, by assumption, (Option.some.inj h).symm⟩
    · cases h
  · cases h

theorem xs23_inv {pc : Nat} {ls st : List xV} {g : xG} {t : xD} {z : xSt} (h : xs23 pc ls st g t = some z) : ∃ k n r, st = (0, Int.ofNat k) :: (0, Int.ofNat n) :: r ∧ (n ≤ 1000 ∧ k ≤ 1000 ∧ 0 < k) ∧ z = (pc, ls, (2, ((g.1.1 + 2 : Nat) : Int)) :: r, xnew2 g n k, t) := by
  unfold xs23 at h
  split at h
  · split at h
    · exact ⟨_, _, _, rfl, by assumption, (Option.some.inj h).symm⟩
    · cases h
  · cases h

theorem xs26_inv {d pc : Nat} {ls st : List xV} {g : xG} {t : xD} {z : xSt} (h : xs26 d pc ls st g t = some z) : ∃ n dp a sp b r, st = (0, n) :: (0, dp) :: (2, Int.ofNat a) :: (0, sp) :: (2, Int.ofNat b) :: r ∧ (0 < d ∧ xcats r ≤ 8 ∧ 2 ≤ a ∧ 2 ≤ b ∧ 0 ≤ n ∧ 0 ≤ dp ∧ 0 ≤ sp ∧ ((g.2.1 a).1 = 20 ∨ (g.2.1 a).1 = 21) ∧ (g.2.1 b).1 = (g.2.1 a).1 ∧ sp.toNat + n.toNat ≤ (g.2.1 b).2 ∧ dp.toNat + n.toNat ≤ (g.2.1 a).2 ∧ 0 < (g.2.1 a).2 ∧ 0 < (g.2.1 b).2) ∧ z = (pc, ls, r, g, xcpy t b sp.toNat a dp.toNat n.toNat) := by
  unfold xs26 at h
  split at h
  · split at h
    · exact ⟨_, _, _, _, _, _, rfl, by assumption, (Option.some.inj h).symm⟩
    · cases h
  · cases h

theorem xs27_inv {d pc : Nat} {ls st : List xV} {g : xG} {t : xD} {z : xSt} (h : xs27 d pc ls st g t = some z) : ∃ a r, st = (2, Int.ofNat a) :: r ∧ (0 < d ∧ xcats r ≤ 8) ∧ z = (pc, ls, r, g, t) := by
  unfold xs27 at h
  split at h
  · split at h
    · exact ⟨_, _, rfl, by assumption, (Option.some.inj h).symm⟩
    · cases h
  · cases h

theorem xput_g {mi ci k a : Nat} {v : xV} {g : xG} {t : xD} {w : xG × xD} (h : xput mi ci k a v g t = some w) : w.1.1 = g.1 := by
  unfold xput at h
  split at h
  · split at h
    · split at h
      · cases h; rfl
      · cases h
    · cases h; rfl
  · cases h
theorem xast_g {kd a : Nat} {i : Int} {v : xV} {g : xG} {t : xD} {w : xG × xD} (h : xast kd a i v g t = some w) : w.1.1 = g.1 := by
  unfold xast at h
  by_cases h1 : 0 ≤ i ∧ i.toNat < (g.2.1 a).2 ∧ 2 ≤ a
  · rw [if_pos h1] at h
    by_cases h2 : kd = 23
    · rw [if_pos h2] at h
      by_cases h3 : v.1 = 2 ∧ 0 ≤ v.2 ∧ 23 ≤ (g.2.1 a).1 ∧ (g.2.1 a).1 ≤ 25 ∧ xobj g v.2.toNat (xrowc (g.2.1 a).1) 0
      · rw [if_pos h3] at h; cases h; rfl
      · rw [if_neg h3] at h; cases h
    · rw [if_neg h2] at h
      by_cases h3 : (g.2.1 a).1 = kd ∧ v.1 = (if kd = 21 then 1 else 0)
      · rw [if_pos h3] at h; cases h; rfl
      · rw [if_neg h3] at h; cases h
  · rw [if_neg h1] at h; cases h
theorem xbin_r {k : Nat} {x y w : Int} (h : xbin k x y = some w) : xr32 w := by
  unfold xbin at h
  split at h <;> first | (cases h; exact xr32_of _) | (split at h <;> first | (cases h; exact xr32_of _) | cases h) | cases h
theorem xun_ok {k : Nat} {v w : xV} (hv : xokv v) (h : xun k v = some w) : xokv w := by
  unfold xun at h
  split at h
  · cases h; exact xok_l (xr32_mono (hv.1 rfl))
  · cases h; exact xok_i (xr32_of _)
  · cases h; exact xok_i (xr32_of _)
  · cases h; exact xok_i (xr32_of _)
  · cases h; exact xok_l (xr64_of _)
  · cases h
theorem xlbin_ok {k : Nat} {x y : Int} {w : xV} (h : xlbin k x y = some w) : xokv w := by
  unfold xlbin at h
  split at h <;> first | (cases h; exact xok_l (xr64_of _)) | (split at h <;> first | (cases h; exact xok_l (xr64_of _)) | cases h) | skip
  · cases h
    refine xok_i ?_
    unfold xlcmp
    split
    · exact ⟨by decide, by decide⟩
    · split <;> exact ⟨by decide, by decide⟩
  · cases h
theorem xcats_map (q : xK) (r : List xV) : ((r.map (xcv q)).map fun v => v.category).sum = xcats r := by
  rw [List.map_map]
  unfold xcats
  congr 1
  exact List.map_congr_left (fun v _ => xcv_cat q v)
theorem xneq1 {q : xK} {v : xV} (h : ¬ v.1 = 1) : (xcv q v).category = 1 := by
  rw [xcv_cat]
  unfold xcat
  rw [if_neg h]
theorem xstep_mono {d mi len pc : Nat} {o : xOp} {ls st : List xV} {g : xG} {t : xD} {z : xSt} (h : xstep d mi len o pc ls st g t = some z) : g.1.1 ≤ z.2.2.2.1.1.1 ∧ g.1.2 ≤ z.2.2.2.1.1.2 := by
  unfold xstep at h
  split at h
  · cases h; exact ⟨Nat.le_refl _, Nat.le_refl _⟩
  · obtain ⟨_, _, _, rfl⟩ := xs1_inv h; exact ⟨Nat.le_refl _, Nat.le_refl _⟩
  · obtain ⟨_, _, _, _, _, rfl⟩ := xs2_inv h; exact ⟨Nat.le_refl _, Nat.le_refl _⟩
  · obtain ⟨_, _, rfl⟩ := xs3_inv h; exact ⟨Nat.le_refl _, Nat.le_refl _⟩
  · obtain ⟨_, _, _, _, _, _, rfl⟩ := xs4_inv h; exact ⟨Nat.le_refl _, Nat.le_refl _⟩
  · obtain ⟨_, _, _, _, _, rfl⟩ := xs5_inv h; exact ⟨Nat.le_refl _, Nat.le_refl _⟩
  · obtain ⟨_, _, _, _, _, _, _, _, rfl⟩ := xs6_inv h; exact ⟨Nat.le_refl _, Nat.le_refl _⟩
  · obtain ⟨_, _, _, rfl⟩ := xs7_inv h; exact ⟨Nat.le_refl _, Nat.le_refl _⟩
  · obtain ⟨_, _, _, _, rfl⟩ := xs8_inv h; exact ⟨Nat.le_refl _, Nat.le_refl _⟩
  · cases h; exact ⟨Nat.le_refl _, Nat.le_refl _⟩
  · obtain ⟨_, _, _, w⟩ := xs10_inv h; rcases w with ⟨_, rfl⟩ | ⟨_, _, _, rfl⟩ <;> exact ⟨Nat.le_refl _, Nat.le_refl _⟩
  · obtain ⟨_, _, _, _, rfl⟩ := xs11_inv h; exact ⟨Nat.le_refl _, Nat.le_refl _⟩
  · obtain ⟨_, _, _, _, rfl⟩ := xs12_inv h; exact ⟨Nat.le_refl _, Nat.le_refl _⟩
  · obtain ⟨_, _, _, _, _, rfl⟩ := xs13_inv h; exact ⟨Nat.le_refl _, Nat.le_refl _⟩
  · obtain ⟨_, _, _, _, _, rfl⟩ := xs14_inv h; exact ⟨Nat.le_refl _, Nat.le_refl _⟩
  · obtain ⟨_, _, _, _, rfl⟩ := xs15_inv h; exact ⟨Nat.le_refl _, Nat.le_refl _⟩
  · obtain ⟨_, _, _, w, _, hp, rfl⟩ := xs16_inv h; have e := xput_g hp; dsimp only; rw [e]; exact ⟨Nat.le_refl _, Nat.le_refl _⟩
  · obtain ⟨_, _, _, _, _, _, rfl⟩ := xs17_inv h; exact ⟨Nat.le_refl _, Nat.le_refl _⟩
  · obtain ⟨_, _, _, _, w, _, hp, rfl⟩ := xs18_inv h; have e := xast_g hp; dsimp only; rw [e]; exact ⟨Nat.le_refl _, Nat.le_refl _⟩
  · obtain ⟨_, _, rfl⟩ := xs19_inv h; exact ⟨Nat.le_refl _, Nat.le_refl _⟩
  · cases h; exact ⟨Nat.le_add_right _ _, Nat.le_add_right _ _⟩
  · obtain ⟨_, _, _, _, rfl⟩ := xs21_inv h; exact ⟨Nat.le_add_right _ _, Nat.le_add_right _ _⟩
  · obtain ⟨_, _, _, _, rfl⟩ := xs21_inv h; exact ⟨Nat.le_add_right _ _, Nat.le_add_right _ _⟩
  · obtain ⟨k, n, _, _, _, rfl⟩ := xs23_inv h; exact ⟨by show g.1.1 ≤ g.1.1 + 1 + n; omega, by show g.1.2 ≤ g.1.2 + n + n * k; omega⟩
  · obtain ⟨_, _, _, _, _, _, _, _, rfl⟩ := xs26_inv h; exact ⟨Nat.le_refl _, Nat.le_refl _⟩
  · obtain ⟨_, _, _, _, rfl⟩ := xs27_inv h; exact ⟨Nat.le_refl _, Nat.le_refl _⟩
  · cases h; exact ⟨Nat.le_refl _, Nat.le_refl _⟩
  · cases h
section XSIMS
variable {p : Program} {l : Launch} {e : Env} {R : Room} {s : State} {m : MethodId} {args : Array Value} {below : List Frame} {meth : Method} {c : Code} {H : Heap} {locs : List Loc} {cells slots : Nat} {Q : State → Prop}
variable {q : xK} {cA : Nat → ClassId} {D : va_G} {L : Nat} {xs : Nat → Int32} {mi : Nat}
set_option maxHeartbeats 8000000 in
set_option maxRecDepth 10000 in
theorem xsim_step {d len j pc : Nat} {i : Instr} {o : xOp} {ls st : List xV} {g : xG} {t : xD} {z : xSt} (C : xCx p s m args meth c mi D cA q L xs) (hc : xcode mi pc = some ((i, len, j), o)) (h : xstep d mi len o pc ls st g t = some z) {lsA : Array Slot} (hL : xLv q lsA (xml mi) ls) (hst : ∀ v ∈ st, xokv v) (hH : xHp q cA D L xs g t s H locs) (hce : H.size = s.heap.size + cells) (hd : d ≤ R.frames ∧ 64 * d + 64 ≤ R.locals) (hcells : cells + (z.2.2.2.1.1.1 - g.1.1) ≤ R.cells) (hslots : slots + (z.2.2.2.1.1.2 - g.1.2) ≤ R.slots)
    (kk : ∀ (lsB : Array Slot) (H1 : Heap) (locs1 : List Loc), xLv q lsB (xml mi) z.2.1 → (∀ v ∈ z.2.2.1, xokv v) → xHp q cA D L xs z.2.2.2.1 z.2.2.2.2 s H1 locs1 → H1.size = s.heap.size + (cells + (z.2.2.2.1.1.1 - g.1.1)) → W p l e R s m args below meth c H1 locs1 (cells + (z.2.2.2.1.1.1 - g.1.1)) (slots + (z.2.2.2.1.1.2 - g.1.2)) Q (F0 m z.1 lsB (z.2.2.1.map (xcv q)))) : W p l e R s m args below meth c H locs cells slots Q (F0 m pc lsA (st.map (xcv q))) := by
  obtain ⟨hx, ⟨y, hy, hb, hown, hini⟩, hml, hts, hKn⟩ := C
  obtain ⟨y', hy', hdg, hchk, hxml, hxbl, hxin⟩ := xcode_ok hc
  cases hy.symm.trans hy'
  have hsz : lsA.size = xml mi := hL.1.1
  have hstc : ∀ {v : xV} {r : List xV}, st = v :: r → xokv v ∧ ∀ w ∈ r, xokv w := fun e => by subst e; exact ⟨hst _ List.mem_cons_self, fun w hw => hst w (List.mem_cons_of_mem _ hw)⟩
  have cons : ∀ {v : xV} {r : List xV}, xokv v → (∀ w ∈ r, xokv w) → ∀ w ∈ v :: r, xokv w := fun h1 h2 w hw => by
    rcases List.mem_cons.mp hw with rfl | h
    · exact h1
    · exact h2 w h
  dsimp only at hdg hchk
  cases i
  case iconst n =>
    have hz : (decide (o = (0, 0, 0, n, [])) && Nat.beq len 1 && decide ((-1 : Int) ≤ n) && decide (n ≤ 5)) = true := hchk
    simp only [Bool.and_eq_true, decide_eq_true_eq, Nat.beq_eq] at hz
    obtain ⟨⟨⟨rfl, rfl⟩, hn1⟩, hn2⟩ := hz
    have h : some (pc + _, ls, (0, n) :: st, g, t) = some z := h
    cases h
    dsimp only at kk
    simp only [Nat.sub_self, Nat.add_zero] at kk
    refine lv_iconst (v := Int32.ofInt n) hx hb hdg rfl ?_
    exact kk lsA H locs hL (cons (xok_i ⟨by omega, by omega⟩) hst) hH hce
  case bipush n =>
    have hz : (decide (o = (0, 0, 0, n, [])) && Nat.beq len 2 && decide ((-128 : Int) ≤ n) && decide (n ≤ 127)) = true := hchk
    simp only [Bool.and_eq_true, decide_eq_true_eq, Nat.beq_eq] at hz
    obtain ⟨⟨⟨rfl, rfl⟩, hn1⟩, hn2⟩ := hz
    have h : some (pc + _, ls, (0, n) :: st, g, t) = some z := h
    cases h
    dsimp only at kk
    simp only [Nat.sub_self, Nat.add_zero] at kk
    refine lv_bipush (v := Int32.ofInt n) hx hb hdg (Int8.toInt32_ofInt hn1 hn2) ?_
    exact kk lsA H locs hL (cons (xok_i ⟨by omega, by omega⟩) hst) hH hce
  case sipush n =>
    have hz : (decide (o = (0, 0, 0, n, [])) && Nat.beq len 3 && decide ((-32768 : Int) ≤ n) && decide (n ≤ 32767)) = true := hchk
    simp only [Bool.and_eq_true, decide_eq_true_eq, Nat.beq_eq] at hz
    obtain ⟨⟨⟨rfl, rfl⟩, hn1⟩, hn2⟩ := hz
    have h : some (pc + _, ls, (0, n) :: st, g, t) = some z := h
    cases h
    dsimp only at kk
    simp only [Nat.sub_self, Nat.add_zero] at kk
    refine lv_sipush (v := Int32.ofInt n) hx hb hdg (Int16.toInt32_ofInt hn1 hn2) ?_
    exact kk lsA H locs hL (cons (xok_i ⟨by omega, by omega⟩) hst) hH hce
  case lconst n =>
    have hz : (decide (o = (0, 1, 0, ((n : Nat) : Int), [])) && Nat.beq len 1) = true := hchk
    simp only [Bool.and_eq_true, decide_eq_true_eq, Nat.beq_eq] at hz
    obtain ⟨rfl, rfl⟩ := hz
    have h : some (pc + _, ls, (1, ((n : Nat) : Int)) :: st, g, t) = some z := h
    cases h
    dsimp only at kk
    simp only [Nat.sub_self, Nat.add_zero] at kk
    refine lv_lconst (v := Int64.ofInt ((n : Nat) : Int)) hx hb hdg (by obtain ⟨n, hn⟩ := n; rcases (by omega : n = 0 ∨ n = 1) with rfl | rfl <;> rfl) ?_
    exact kk lsA H locs hL (cons (xok_l ⟨by omega, by have := n.2; omega⟩) hst) hH hce
  case ldc_w i =>
    cases hu : xCT[j]? with
    | none =>
      have hz : (match xCT[j]? with
        | some u => decide (u.1 = y.1.cls) && Nat.beq u.2.1 i && decide (o = (0, 0, 0, u.2.2.1, [])) && !u.2.2.2 && Nat.beq len 3 && decide ((-2147483648 : Int) ≤ u.2.2.1) && decide (u.2.2.1 < 2147483648)
        | none => false) = true := hchk
      rw [hu] at hz
      cases hz
    | some u =>
    have hz : (match xCT[j]? with
        | some u => decide (u.1 = y.1.cls) && Nat.beq u.2.1 i && decide (o = (0, 0, 0, u.2.2.1, [])) && !u.2.2.2 && Nat.beq len 3 && decide ((-2147483648 : Int) ≤ u.2.2.1) && decide (u.2.2.1 < 2147483648)
        | none => false) = true := hchk
    rw [hu] at hz
    simp only [Bool.and_eq_true, decide_eq_true_eq, Nat.beq_eq, Bool.not_eq_true'] at hz
    obtain ⟨⟨⟨⟨⟨⟨hu1, hu2⟩, rfl⟩, hu4⟩, rfl⟩, hn1⟩, hn2⟩ := hz
    have h : some (pc + _, ls, (0, u.2.2.1) :: st, g, t) = some z := h
    cases h
    dsimp only at kk
    simp only [Nat.sub_self, Nat.add_zero] at kk
    have hw : Cond.constant y.1.cls i (Int32.ofInt u.2.2.1) ∈ xTs := by
      refine xT_const (List.mem_map.mpr ⟨u, List.mem_of_getElem? hu, ?_⟩)
      unfold xwc
      rw [hu4, hu1, hu2]
      rfl
    refine lv_ldcw hx hb hown (hts _ hw) hdg ?_
    exact kk lsA H locs hL (cons (xok_i ⟨hn1, hn2⟩) hst) hH hce
  case ldc2_w i =>
    cases hu : xCT[j]? with
    | none =>
      have hz : (match xCT[j]? with
        | some u => decide (u.1 = y.1.cls) && Nat.beq u.2.1 i && decide (o = (0, 1, 0, u.2.2.1, [])) && u.2.2.2 && Nat.beq len 3 && decide ((-9223372036854775808 : Int) ≤ u.2.2.1) && decide (u.2.2.1 < 9223372036854775808)
        | none => false) = true := hchk
      rw [hu] at hz
      cases hz
    | some u =>
    have hz : (match xCT[j]? with
        | some u => decide (u.1 = y.1.cls) && Nat.beq u.2.1 i && decide (o = (0, 1, 0, u.2.2.1, [])) && u.2.2.2 && Nat.beq len 3 && decide ((-9223372036854775808 : Int) ≤ u.2.2.1) && decide (u.2.2.1 < 9223372036854775808)
        | none => false) = true := hchk
    rw [hu] at hz
    simp only [Bool.and_eq_true, decide_eq_true_eq, Nat.beq_eq, Bool.not_eq_true'] at hz
    obtain ⟨⟨⟨⟨⟨⟨hu1, hu2⟩, rfl⟩, hu4⟩, rfl⟩, hn1⟩, hn2⟩ := hz
    have h : some (pc + _, ls, (1, u.2.2.1) :: st, g, t) = some z := h
    cases h
    dsimp only at kk
    simp only [Nat.sub_self, Nat.add_zero] at kk
    have hw : Cond.constantLong y.1.cls i (Int64.ofInt u.2.2.1) ∈ xTs := by
      refine xT_const (List.mem_map.mpr ⟨u, List.mem_of_getElem? hu, ?_⟩)
      unfold xwc
      rw [hu4, hu1, hu2]
      rfl
    refine lv_ldc2 hx hb hown (hts _ hw) hdg ?_
    exact kk lsA H locs hL (cons (xok_l ⟨hn1, hn2⟩) hst) hH hce
  case iload_n k =>
    have hz : (decide (o = (1, (k : Nat), 0, 0, [])) && Nat.beq len 1) = true := hchk
    simp only [Bool.and_eq_true, decide_eq_true_eq, Nat.beq_eq] at hz
    obtain ⟨rfl, rfl⟩ := hz
    have h : xs1 (k : Nat) 0 (pc + _) ls st g t = some z := h
    obtain ⟨⟨tg, x⟩, hv, e0, rfl⟩ := xs1_inv h
    have e0 : tg = 0 := e0
    subst e0
    dsimp only at kk
    simp only [Nat.sub_self, Nat.add_zero] at kk
    refine lv_iload_n hx hb hdg rfl (hL.at hv (show 0 < 3 by decide)) ?_
    exact kk lsA H locs hL (cons (hL.ok hv) hst) hH hce
  case iload k =>
    have hz : (decide (o = (1, k, 0, 0, [])) && Nat.beq len 2) = true := hchk
    simp only [Bool.and_eq_true, decide_eq_true_eq, Nat.beq_eq] at hz
    obtain ⟨rfl, rfl⟩ := hz
    have h : xs1 k 0 (pc + _) ls st g t = some z := h
    obtain ⟨⟨tg, x⟩, hv, e0, rfl⟩ := xs1_inv h
    have e0 : tg = 0 := e0
    subst e0
    dsimp only at kk
    simp only [Nat.sub_self, Nat.add_zero] at kk
    refine lv_iload hx hb hdg (hL.at hv (show 0 < 3 by decide)) ?_
    exact kk lsA H locs hL (cons (hL.ok hv) hst) hH hce
  case lload_n k =>
    have hz : (decide (o = (1, (k : Nat), 1, 0, [])) && Nat.beq len 1) = true := hchk
    simp only [Bool.and_eq_true, decide_eq_true_eq, Nat.beq_eq] at hz
    obtain ⟨rfl, rfl⟩ := hz
    have h : xs1 (k : Nat) 1 (pc + _) ls st g t = some z := h
    obtain ⟨⟨tg, x⟩, hv, e0, rfl⟩ := xs1_inv h
    have e0 : tg = 1 := e0
    subst e0
    dsimp only at kk
    simp only [Nat.sub_self, Nat.add_zero] at kk
    refine lv_lload_n hx hb hdg rfl (hL.at hv (show 1 < 3 by decide)) ?_
    exact kk lsA H locs hL (cons (hL.ok hv) hst) hH hce
  case lload k =>
    have hz : (decide (o = (1, k, 1, 0, [])) && Nat.beq len 2) = true := hchk
    simp only [Bool.and_eq_true, decide_eq_true_eq, Nat.beq_eq] at hz
    obtain ⟨rfl, rfl⟩ := hz
    have h : xs1 k 1 (pc + _) ls st g t = some z := h
    obtain ⟨⟨tg, x⟩, hv, e0, rfl⟩ := xs1_inv h
    have e0 : tg = 1 := e0
    subst e0
    dsimp only at kk
    simp only [Nat.sub_self, Nat.add_zero] at kk
    refine lv_lload hx hb hdg (hL.at hv (show 1 < 3 by decide)) ?_
    exact kk lsA H locs hL (cons (hL.ok hv) hst) hH hce
  case aload_n k =>
    have hz : (decide (o = (1, (k : Nat), 2, 0, [])) && Nat.beq len 1) = true := hchk
    simp only [Bool.and_eq_true, decide_eq_true_eq, Nat.beq_eq] at hz
    obtain ⟨rfl, rfl⟩ := hz
    have h : xs1 (k : Nat) 2 (pc + _) ls st g t = some z := h
    obtain ⟨⟨tg, x⟩, hv, e0, rfl⟩ := xs1_inv h
    have e0 : tg = 2 := e0
    subst e0
    dsimp only at kk
    simp only [Nat.sub_self, Nat.add_zero] at kk
    have hv3 := hL.at (q := q) hv (show 2 < 3 by decide)
    have kk := kk lsA H locs hL (cons (hL.ok hv) hst) hH hce
    have e3 : xcv q (2, x) = va_rf (xrf q x) := rfl
    have kk : W p l e R s m args below meth c H locs cells slots Q (F0 m (pc + 1) lsA (xcv q (2, x) :: st.map (xcv q))) := kk
    rw [e3] at hv3 kk
    cases hr : xrf q x with
    | none => rw [hr] at hv3 kk; exact lv_aload_nN hx hb hdg rfl hv3 kk
    | some w => rw [hr] at hv3 kk; exact lv_aload_n hx hb hdg rfl hv3 kk
  case aload k =>
    have hz : (decide (o = (1, k, 2, 0, [])) && Nat.beq len 2) = true := hchk
    simp only [Bool.and_eq_true, decide_eq_true_eq, Nat.beq_eq] at hz
    obtain ⟨rfl, rfl⟩ := hz
    have h : xs1 k 2 (pc + _) ls st g t = some z := h
    obtain ⟨⟨tg, x⟩, hv, e0, rfl⟩ := xs1_inv h
    have e0 : tg = 2 := e0
    subst e0
    dsimp only at kk
    simp only [Nat.sub_self, Nat.add_zero] at kk
    have hv3 := hL.at (q := q) hv (show 2 < 3 by decide)
    have kk := kk lsA H locs hL (cons (hL.ok hv) hst) hH hce
    have e3 : xcv q (2, x) = va_rf (xrf q x) := rfl
    have kk : W p l e R s m args below meth c H locs cells slots Q (F0 m (pc + 2) lsA (xcv q (2, x) :: st.map (xcv q))) := kk
    rw [e3] at hv3 kk
    cases hr : xrf q x with
    | none => rw [hr] at hv3 kk; exact lv_aloadN hx hb hdg hv3 kk
    | some w => rw [hr] at hv3 kk; exact lv_aload hx hb hdg hv3 kk
  case istore_n k =>
    have hz : (decide (o = (2, (k : Nat), 0, 0, [])) && Nat.beq len 1) = true := hchk
    simp only [Bool.and_eq_true, decide_eq_true_eq, Nat.beq_eq] at hz
    obtain ⟨rfl, rfl⟩ := hz
    have h : xs2 (k : Nat) 0 (pc + _) ls st g t = some z := h
    obtain ⟨⟨tg, x⟩, r, rfl, e0, hle, rfl⟩ := xs2_inv h
    have e0 : tg = 0 := e0
    subst e0
    obtain ⟨hv, hr⟩ := hstc rfl
    rw [hL.2.1] at hle
    dsimp only at kk
    simp only [Nat.sub_self, Nat.add_zero] at kk
    have hle : (k : Nat) + 1 ≤ xml mi := hle
    refine lv_istore_n (x := Int32.ofInt x) hx hb hdg rfl hL.1 (by omega) rfl (fun lsB hB => ?_)
    exact kk lsB H locs (hL.set1 (v := (0, x)) hv hB) hr hH hce
  case istore k =>
    have hz : (decide (o = (2, k, 0, 0, [])) && Nat.beq len 2) = true := hchk
    simp only [Bool.and_eq_true, decide_eq_true_eq, Nat.beq_eq] at hz
    obtain ⟨rfl, rfl⟩ := hz
    have h : xs2 k 0 (pc + _) ls st g t = some z := h
    obtain ⟨⟨tg, x⟩, r, rfl, e0, hle, rfl⟩ := xs2_inv h
    have e0 : tg = 0 := e0
    subst e0
    obtain ⟨hv, hr⟩ := hstc rfl
    rw [hL.2.1] at hle
    dsimp only at kk
    simp only [Nat.sub_self, Nat.add_zero] at kk
    have hle : k + 1 ≤ xml mi := hle
    refine lv_istore (x := Int32.ofInt x) hx hb hdg hL.1 (by omega) rfl (fun lsB hB => ?_)
    exact kk lsB H locs (hL.set1 (v := (0, x)) hv hB) hr hH hce
  case lstore_n k =>
    have hz : (decide (o = (2, (k : Nat), 1, 0, [])) && Nat.beq len 1) = true := hchk
    simp only [Bool.and_eq_true, decide_eq_true_eq, Nat.beq_eq] at hz
    obtain ⟨rfl, rfl⟩ := hz
    have h : xs2 (k : Nat) 1 (pc + _) ls st g t = some z := h
    obtain ⟨⟨tg, x⟩, r, rfl, e0, hle, rfl⟩ := xs2_inv h
    have e0 : tg = 1 := e0
    subst e0
    obtain ⟨hv, hr⟩ := hstc rfl
    rw [hL.2.1] at hle
    dsimp only at kk
    simp only [Nat.sub_self, Nat.add_zero] at kk
    have hle : (k : Nat) + 2 ≤ xml mi := hle
    refine lv_lstore_n (x := Int64.ofInt x) hx hb hdg rfl hL.1 (by omega) rfl (fun lsB hB => ?_)
    exact kk lsB H locs (hL.set2 (v := (1, x)) hv hB) hr hH hce
  case lstore k =>
    have hz : (decide (o = (2, k, 1, 0, [])) && Nat.beq len 2) = true := hchk
    simp only [Bool.and_eq_true, decide_eq_true_eq, Nat.beq_eq] at hz
    obtain ⟨rfl, rfl⟩ := hz
    have h : xs2 k 1 (pc + _) ls st g t = some z := h
    obtain ⟨⟨tg, x⟩, r, rfl, e0, hle, rfl⟩ := xs2_inv h
    have e0 : tg = 1 := e0
    subst e0
    obtain ⟨hv, hr⟩ := hstc rfl
    rw [hL.2.1] at hle
    dsimp only at kk
    simp only [Nat.sub_self, Nat.add_zero] at kk
    have hle : k + 2 ≤ xml mi := hle
    refine lv_lstore (x := Int64.ofInt x) hx hb hdg hL.1 (by omega) rfl (fun lsB hB => ?_)
    exact kk lsB H locs (hL.set2 (v := (1, x)) hv hB) hr hH hce
  case astore_n k =>
    have hz : (decide (o = (2, (k : Nat), 2, 0, [])) && Nat.beq len 1) = true := hchk
    simp only [Bool.and_eq_true, decide_eq_true_eq, Nat.beq_eq] at hz
    obtain ⟨rfl, rfl⟩ := hz
    have h : xs2 (k : Nat) 2 (pc + _) ls st g t = some z := h
    obtain ⟨⟨tg, x⟩, r, rfl, e0, hle, rfl⟩ := xs2_inv h
    have e0 : tg = 2 := e0
    subst e0
    obtain ⟨hv, hr⟩ := hstc rfl
    rw [hL.2.1] at hle
    dsimp only at kk
    simp only [Nat.sub_self, Nat.add_zero] at kk
    have hle : (k : Nat) + 1 ≤ xml mi := hle
    show W p l e R s m args below meth c H locs cells slots Q (F0 m pc lsA (va_rf (xrf q x) :: r.map (xcv q)))
    have hs : ∀ {lsB : Array Slot}, lv_has lsB (xml mi) (((k : Nat), va_rf (xrf q x)) :: (xas q ls).filter (fun z => !(z.1 == (k : Nat)) && !(z.1 + 1 == (k : Nat) && z.2.category == 2))) → xLv q lsB (xml mi) (xset ls (k : Nat) (2, x)) := fun hB => hL.set1 (v := (2, x)) hv hB
    cases hr2 : xrf q x with
    | none => rw [hr2] at hs; exact lv_astore_nN hx hb hdg rfl hL.1 (by omega) rfl (fun lsB hB => kk lsB H locs (hs hB) hr hH hce)
    | some w => rw [hr2] at hs; exact lv_astore_n hx hb hdg rfl hL.1 (by omega) rfl (fun lsB hB => kk lsB H locs (hs hB) hr hH hce)
  case astore k =>
    have hz : (decide (o = (2, k, 2, 0, [])) && Nat.beq len 2) = true := hchk
    simp only [Bool.and_eq_true, decide_eq_true_eq, Nat.beq_eq] at hz
    obtain ⟨rfl, rfl⟩ := hz
    have h : xs2 k 2 (pc + _) ls st g t = some z := h
    obtain ⟨⟨tg, x⟩, r, rfl, e0, hle, rfl⟩ := xs2_inv h
    have e0 : tg = 2 := e0
    subst e0
    obtain ⟨hv, hr⟩ := hstc rfl
    rw [hL.2.1] at hle
    dsimp only at kk
    simp only [Nat.sub_self, Nat.add_zero] at kk
    have hle : k + 1 ≤ xml mi := hle
    show W p l e R s m args below meth c H locs cells slots Q (F0 m pc lsA (va_rf (xrf q x) :: r.map (xcv q)))
    have hs : ∀ {lsB : Array Slot}, lv_has lsB (xml mi) ((k, va_rf (xrf q x)) :: (xas q ls).filter (fun z => !(z.1 == k) && !(z.1 + 1 == k && z.2.category == 2))) → xLv q lsB (xml mi) (xset ls k (2, x)) := fun hB => hL.set1 (v := (2, x)) hv hB
    cases hr2 : xrf q x with
    | none => rw [hr2] at hs; exact lv_astoreN hx hb hdg hL.1 (by omega) rfl (fun lsB hB => kk lsB H locs (hs hB) hr hH hce)
    | some w => rw [hr2] at hs; exact lv_astore hx hb hdg hL.1 (by omega) rfl (fun lsB hB => kk lsB H locs (hs hB) hr hH hce)
  case iinc k n =>
    have hz : (decide (o = (3, k, 0, n, [])) && Nat.beq len 3) = true := hchk
    simp only [Bool.and_eq_true, decide_eq_true_eq, Nat.beq_eq] at hz
    obtain ⟨rfl, rfl⟩ := hz
    have h : xs3 k n (pc + _) ls st g t = some z := h
    obtain ⟨x, hv, rfl⟩ := xs3_inv h
    dsimp only at kk
    simp only [Nat.sub_self, Nat.add_zero] at kk
    have hm : (k, xcv q (0, x)) ∈ xas q ls := xas_mem.mpr ⟨(0, x), hv, (by decide : (0 : Nat) < 3), rfl⟩
    obtain ⟨kp, hkp⟩ := List.getElem?_of_mem hm
    have hkl : k < xml mi := by rw [← hL.2.1]; exact (List.getElem?_eq_some_iff.mp hv).1
    refine lv_iinc (v := Int32.ofInt (xadd x n)) hx hb hdg hL.1 hkp (by unfold xadd; rw [Int32.ofInt_toInt]) hkl rfl (fun lsB hB => ?_)
    exact kk lsB H locs (hL.set1 (v := (0, xadd x n)) (xok_i (xr32_of _)) hB) hst hH hce
  case iadd =>
    have hz : (decide (o = (4, 0, 0, 0, [])) && Nat.beq len 1) = true := hchk
    simp only [Bool.and_eq_true, decide_eq_true_eq, Nat.beq_eq] at hz
    obtain ⟨rfl, rfl⟩ := hz
    have h : xs4 0 (pc + _) ls st g t = some z := h
    obtain ⟨y2, x, r, w, rfl, hw, rfl⟩ := xs4_inv h
    obtain ⟨hv1, hr1⟩ := hstc rfl
    have hr2 : ∀ w ∈ r, xokv w := fun w hw => hr1 w (List.mem_cons_of_mem _ hw)
    dsimp only at kk
    simp only [Nat.sub_self, Nat.add_zero] at kk
    have hok := kk lsA H locs hL (cons (xok_i (xbin_r hw)) hr2) hH hce
    have hw : some (xadd x y2) = some w := hw
    cases hw
    refine lv_iadd hx hb hdg ?_
    have e5 : xcv q (0, xadd x y2) = .int _ := (xcv_i q _).trans (congrArg Value.int (Int32.ofInt_toInt _))
    have hok : W p l e R s m args below meth c H locs cells slots Q (F0 m (pc + 1) lsA (xcv q (0, xadd x y2) :: r.map (xcv q))) := hok
    rw [e5] at hok
    exact hok
  case isub =>
    have hz : (decide (o = (4, 1, 0, 0, [])) && Nat.beq len 1) = true := hchk
    simp only [Bool.and_eq_true, decide_eq_true_eq, Nat.beq_eq] at hz
    obtain ⟨rfl, rfl⟩ := hz
    have h : xs4 1 (pc + _) ls st g t = some z := h
    obtain ⟨y2, x, r, w, rfl, hw, rfl⟩ := xs4_inv h
    obtain ⟨hv1, hr1⟩ := hstc rfl
    have hr2 : ∀ w ∈ r, xokv w := fun w hw => hr1 w (List.mem_cons_of_mem _ hw)
    dsimp only at kk
    simp only [Nat.sub_self, Nat.add_zero] at kk
    have hok := kk lsA H locs hL (cons (xok_i (xbin_r hw)) hr2) hH hce
    have hw : some (xsub x y2) = some w := hw
    cases hw
    refine lv_isub hx hb hdg ?_
    have e5 : xcv q (0, xsub x y2) = .int _ := (xcv_i q _).trans (congrArg Value.int (Int32.ofInt_toInt _))
    have hok : W p l e R s m args below meth c H locs cells slots Q (F0 m (pc + 1) lsA (xcv q (0, xsub x y2) :: r.map (xcv q))) := hok
    rw [e5] at hok
    exact hok
  case imul =>
    have hz : (decide (o = (4, 2, 0, 0, [])) && Nat.beq len 1) = true := hchk
    simp only [Bool.and_eq_true, decide_eq_true_eq, Nat.beq_eq] at hz
    obtain ⟨rfl, rfl⟩ := hz
    have h : xs4 2 (pc + _) ls st g t = some z := h
    obtain ⟨y2, x, r, w, rfl, hw, rfl⟩ := xs4_inv h
    obtain ⟨hv1, hr1⟩ := hstc rfl
    have hr2 : ∀ w ∈ r, xokv w := fun w hw => hr1 w (List.mem_cons_of_mem _ hw)
    dsimp only at kk
    simp only [Nat.sub_self, Nat.add_zero] at kk
    have hok := kk lsA H locs hL (cons (xok_i (xbin_r hw)) hr2) hH hce
    have hw : some (xmul x y2) = some w := hw
    cases hw
    refine lv_imul hx hb hdg ?_
    have e5 : xcv q (0, xmul x y2) = .int _ := (xcv_i q _).trans (congrArg Value.int (Int32.ofInt_toInt _))
    have hok : W p l e R s m args below meth c H locs cells slots Q (F0 m (pc + 1) lsA (xcv q (0, xmul x y2) :: r.map (xcv q))) := hok
    rw [e5] at hok
    exact hok
  case iand =>
    have hz : (decide (o = (4, 3, 0, 0, [])) && Nat.beq len 1) = true := hchk
    simp only [Bool.and_eq_true, decide_eq_true_eq, Nat.beq_eq] at hz
    obtain ⟨rfl, rfl⟩ := hz
    have h : xs4 3 (pc + _) ls st g t = some z := h
    obtain ⟨y2, x, r, w, rfl, hw, rfl⟩ := xs4_inv h
    obtain ⟨hv1, hr1⟩ := hstc rfl
    have hr2 : ∀ w ∈ r, xokv w := fun w hw => hr1 w (List.mem_cons_of_mem _ hw)
    dsimp only at kk
    simp only [Nat.sub_self, Nat.add_zero] at kk
    have hok := kk lsA H locs hL (cons (xok_i (xbin_r hw)) hr2) hH hce
    have hw : some (xand x y2) = some w := hw
    cases hw
    refine lv_iand hx hb hdg ?_
    have e5 : xcv q (0, xand x y2) = .int _ := (xcv_i q _).trans (congrArg Value.int (Int32.ofInt_toInt _))
    have hok : W p l e R s m args below meth c H locs cells slots Q (F0 m (pc + 1) lsA (xcv q (0, xand x y2) :: r.map (xcv q))) := hok
    rw [e5] at hok
    exact hok
  case ior =>
    have hz : (decide (o = (4, 4, 0, 0, [])) && Nat.beq len 1) = true := hchk
    simp only [Bool.and_eq_true, decide_eq_true_eq, Nat.beq_eq] at hz
    obtain ⟨rfl, rfl⟩ := hz
    have h : xs4 4 (pc + _) ls st g t = some z := h
    obtain ⟨y2, x, r, w, rfl, hw, rfl⟩ := xs4_inv h
    obtain ⟨hv1, hr1⟩ := hstc rfl
    have hr2 : ∀ w ∈ r, xokv w := fun w hw => hr1 w (List.mem_cons_of_mem _ hw)
    dsimp only at kk
    simp only [Nat.sub_self, Nat.add_zero] at kk
    have hok := kk lsA H locs hL (cons (xok_i (xbin_r hw)) hr2) hH hce
    have hw : some (xor_ x y2) = some w := hw
    cases hw
    refine lv_ior hx hb hdg ?_
    have e5 : xcv q (0, xor_ x y2) = .int _ := (xcv_i q _).trans (congrArg Value.int (Int32.ofInt_toInt _))
    have hok : W p l e R s m args below meth c H locs cells slots Q (F0 m (pc + 1) lsA (xcv q (0, xor_ x y2) :: r.map (xcv q))) := hok
    rw [e5] at hok
    exact hok
  case ixor =>
    have hz : (decide (o = (4, 5, 0, 0, [])) && Nat.beq len 1) = true := hchk
    simp only [Bool.and_eq_true, decide_eq_true_eq, Nat.beq_eq] at hz
    obtain ⟨rfl, rfl⟩ := hz
    have h : xs4 5 (pc + _) ls st g t = some z := h
    obtain ⟨y2, x, r, w, rfl, hw, rfl⟩ := xs4_inv h
    obtain ⟨hv1, hr1⟩ := hstc rfl
    have hr2 : ∀ w ∈ r, xokv w := fun w hw => hr1 w (List.mem_cons_of_mem _ hw)
    dsimp only at kk
    simp only [Nat.sub_self, Nat.add_zero] at kk
    have hok := kk lsA H locs hL (cons (xok_i (xbin_r hw)) hr2) hH hce
    have hw : some (xxor x y2) = some w := hw
    cases hw
    refine lv_ixor hx hb hdg ?_
    have e5 : xcv q (0, xxor x y2) = .int _ := (xcv_i q _).trans (congrArg Value.int (Int32.ofInt_toInt _))
    have hok : W p l e R s m args below meth c H locs cells slots Q (F0 m (pc + 1) lsA (xcv q (0, xxor x y2) :: r.map (xcv q))) := hok
    rw [e5] at hok
    exact hok
  case ishl =>
    have hz : (decide (o = (4, 6, 0, 0, [])) && Nat.beq len 1) = true := hchk
    simp only [Bool.and_eq_true, decide_eq_true_eq, Nat.beq_eq] at hz
    obtain ⟨rfl, rfl⟩ := hz
    have h : xs4 6 (pc + _) ls st g t = some z := h
    obtain ⟨y2, x, r, w, rfl, hw, rfl⟩ := xs4_inv h
    obtain ⟨hv1, hr1⟩ := hstc rfl
    have hr2 : ∀ w ∈ r, xokv w := fun w hw => hr1 w (List.mem_cons_of_mem _ hw)
    dsimp only at kk
    simp only [Nat.sub_self, Nat.add_zero] at kk
    have hok := kk lsA H locs hL (cons (xok_i (xbin_r hw)) hr2) hH hce
    have hw : some (xshl x y2) = some w := hw
    cases hw
    refine lv_ishl hx hb hdg ?_
    have e5 : xcv q (0, xshl x y2) = .int _ := (xcv_i q _).trans (congrArg Value.int (Int32.ofInt_toInt _))
    have hok : W p l e R s m args below meth c H locs cells slots Q (F0 m (pc + 1) lsA (xcv q (0, xshl x y2) :: r.map (xcv q))) := hok
    rw [e5] at hok
    exact hok
  case ishr =>
    have hz : (decide (o = (4, 7, 0, 0, [])) && Nat.beq len 1) = true := hchk
    simp only [Bool.and_eq_true, decide_eq_true_eq, Nat.beq_eq] at hz
    obtain ⟨rfl, rfl⟩ := hz
    have h : xs4 7 (pc + _) ls st g t = some z := h
    obtain ⟨y2, x, r, w, rfl, hw, rfl⟩ := xs4_inv h
    obtain ⟨hv1, hr1⟩ := hstc rfl
    have hr2 : ∀ w ∈ r, xokv w := fun w hw => hr1 w (List.mem_cons_of_mem _ hw)
    dsimp only at kk
    simp only [Nat.sub_self, Nat.add_zero] at kk
    have hok := kk lsA H locs hL (cons (xok_i (xbin_r hw)) hr2) hH hce
    have hw : some (xshr x y2) = some w := hw
    cases hw
    refine lv_ishr hx hb hdg ?_
    have e5 : xcv q (0, xshr x y2) = .int _ := (xcv_i q _).trans (congrArg Value.int (Int32.ofInt_toInt _))
    have hok : W p l e R s m args below meth c H locs cells slots Q (F0 m (pc + 1) lsA (xcv q (0, xshr x y2) :: r.map (xcv q))) := hok
    rw [e5] at hok
    exact hok
  case iushr =>
    have hz : (decide (o = (4, 8, 0, 0, [])) && Nat.beq len 1) = true := hchk
    simp only [Bool.and_eq_true, decide_eq_true_eq, Nat.beq_eq] at hz
    obtain ⟨rfl, rfl⟩ := hz
    have h : xs4 8 (pc + _) ls st g t = some z := h
    obtain ⟨y2, x, r, w, rfl, hw, rfl⟩ := xs4_inv h
    obtain ⟨hv1, hr1⟩ := hstc rfl
    have hr2 : ∀ w ∈ r, xokv w := fun w hw => hr1 w (List.mem_cons_of_mem _ hw)
    dsimp only at kk
    simp only [Nat.sub_self, Nat.add_zero] at kk
    have hok := kk lsA H locs hL (cons (xok_i (xbin_r hw)) hr2) hH hce
    have hw : some (xushr x y2) = some w := hw
    cases hw
    refine lv_iushr hx hb hdg rfl ?_
    have e5 : xcv q (0, xushr x y2) = .int _ := (xcv_i q _).trans (congrArg Value.int (Int32.ofInt_toInt _))
    have hok : W p l e R s m args below meth c H locs cells slots Q (F0 m (pc + 1) lsA (xcv q (0, xushr x y2) :: r.map (xcv q))) := hok
    rw [e5] at hok
    exact hok
  case idiv =>
    have hz : (decide (o = (4, 9, 0, 0, [])) && Nat.beq len 1) = true := hchk
    simp only [Bool.and_eq_true, decide_eq_true_eq, Nat.beq_eq] at hz
    obtain ⟨rfl, rfl⟩ := hz
    have h : xs4 9 (pc + _) ls st g t = some z := h
    obtain ⟨y2, x, r, w, rfl, hw, rfl⟩ := xs4_inv h
    obtain ⟨hv1, hr1⟩ := hstc rfl
    have hr2 : ∀ w ∈ r, xokv w := fun w hw => hr1 w (List.mem_cons_of_mem _ hw)
    dsimp only at kk
    simp only [Nat.sub_self, Nat.add_zero] at kk
    have hok := kk lsA H locs hL (cons (xok_i (xbin_r hw)) hr2) hH hce
    have hw : (if y2 = 0 then none else some (xdiv x y2)) = some w := hw
    by_cases e0 : y2 = 0
    · rw [if_pos e0] at hw; cases hw
    rw [if_neg e0] at hw
    cases hw
    refine lv_idiv hx hb hdg (fun z => e0 ((xeq32 (hv1.1 rfl) ⟨by decide, by decide⟩).mp z)) ?_
    have e5 : xcv q (0, xdiv x y2) = .int _ := (xcv_i q _).trans (congrArg Value.int (Int32.ofInt_toInt _))
    have hok : W p l e R s m args below meth c H locs cells slots Q (F0 m (pc + 1) lsA (xcv q (0, xdiv x y2) :: r.map (xcv q))) := hok
    rw [e5] at hok
    exact hok
  case irem =>
    have hz : (decide (o = (4, 10, 0, 0, [])) && Nat.beq len 1) = true := hchk
    simp only [Bool.and_eq_true, decide_eq_true_eq, Nat.beq_eq] at hz
    obtain ⟨rfl, rfl⟩ := hz
    have h : xs4 10 (pc + _) ls st g t = some z := h
    obtain ⟨y2, x, r, w, rfl, hw, rfl⟩ := xs4_inv h
    obtain ⟨hv1, hr1⟩ := hstc rfl
    have hr2 : ∀ w ∈ r, xokv w := fun w hw => hr1 w (List.mem_cons_of_mem _ hw)
    dsimp only at kk
    simp only [Nat.sub_self, Nat.add_zero] at kk
    have hok := kk lsA H locs hL (cons (xok_i (xbin_r hw)) hr2) hH hce
    have hw : (if y2 = 0 then none else some (xrem x y2)) = some w := hw
    by_cases e0 : y2 = 0
    · rw [if_pos e0] at hw; cases hw
    rw [if_neg e0] at hw
    cases hw
    refine lv_irem hx hb hdg (fun z => e0 ((xeq32 (hv1.1 rfl) ⟨by decide, by decide⟩).mp z)) ?_
    have e5 : xcv q (0, xrem x y2) = .int _ := (xcv_i q _).trans (congrArg Value.int (Int32.ofInt_toInt _))
    have hok : W p l e R s m args below meth c H locs cells slots Q (F0 m (pc + 1) lsA (xcv q (0, xrem x y2) :: r.map (xcv q))) := hok
    rw [e5] at hok
    exact hok
  case i2l =>
    have hz : (decide (o = (5, 0, 0, 0, [])) && Nat.beq len 1) = true := hchk
    simp only [Bool.and_eq_true, decide_eq_true_eq, Nat.beq_eq] at hz
    obtain ⟨rfl, rfl⟩ := hz
    have h : xs5 0 (pc + _) ls st g t = some z := h
    obtain ⟨⟨tg, x⟩, r, w, rfl, hw, rfl⟩ := xs5_inv h
    obtain ⟨hv1, hr1⟩ := hstc rfl
    dsimp only at kk
    simp only [Nat.sub_self, Nat.add_zero] at kk
    have hok := kk lsA H locs hL (cons (xun_ok hv1 hw) hr1) hH hce
    have htg : tg = 0 := by
      rcases tg with _ | _ | tg
      · rfl
      · cases hw
      · cases hw
    subst htg
    have hw : some ((1, x) : xV) = some w := hw
    cases hw
    have e5 : (Int32.ofInt x).toInt64 = Int64.ofInt x := Int32.toInt64_ofInt (hv1.1 rfl).1 (by have := (hv1.1 rfl).2; show x ≤ 2147483647; have : x < 2147483648 := this; omega)
    exact lv_i2l hx hb hdg e5 hok
  case l2i =>
    have hz : (decide (o = (5, 1, 0, 0, [])) && Nat.beq len 1) = true := hchk
    simp only [Bool.and_eq_true, decide_eq_true_eq, Nat.beq_eq] at hz
    obtain ⟨rfl, rfl⟩ := hz
    have h : xs5 1 (pc + _) ls st g t = some z := h
    obtain ⟨⟨tg, x⟩, r, w, rfl, hw, rfl⟩ := xs5_inv h
    obtain ⟨hv1, hr1⟩ := hstc rfl
    dsimp only at kk
    simp only [Nat.sub_self, Nat.add_zero] at kk
    have hok := kk lsA H locs hL (cons (xun_ok hv1 hw) hr1) hH hce
    have htg : tg = 1 := by
      rcases tg with _ | _ | tg
      · cases hw
      · rfl
      · cases hw
    subst htg
    have hw : some ((0, xl2i x) : xV) = some w := hw
    cases hw
    have e5 : xcv q (0, xl2i x) = .int _ := (xcv_i q _).trans (congrArg Value.int (Int32.ofInt_toInt _))
    have hok : W p l e R s m args below meth c H locs cells slots Q (F0 m (pc + 1) lsA (xcv q (0, xl2i x) :: r.map (xcv q))) := hok
    rw [e5] at hok
    exact lv_l2i hx hb hdg rfl hok
  case i2b =>
    have hz : (decide (o = (5, 2, 0, 0, [])) && Nat.beq len 1) = true := hchk
    simp only [Bool.and_eq_true, decide_eq_true_eq, Nat.beq_eq] at hz
    obtain ⟨rfl, rfl⟩ := hz
    have h : xs5 2 (pc + _) ls st g t = some z := h
    obtain ⟨⟨tg, x⟩, r, w, rfl, hw, rfl⟩ := xs5_inv h
    obtain ⟨hv1, hr1⟩ := hstc rfl
    dsimp only at kk
    simp only [Nat.sub_self, Nat.add_zero] at kk
    have hok := kk lsA H locs hL (cons (xun_ok hv1 hw) hr1) hH hce
    have htg : tg = 0 := by
      rcases tg with _ | _ | tg
      · rfl
      · cases hw
      · cases hw
    subst htg
    have hw : some ((0, xi2b x) : xV) = some w := hw
    cases hw
    have e5 : xcv q (0, xi2b x) = .int _ := (xcv_i q _).trans (congrArg Value.int (Int32.ofInt_toInt _))
    have hok : W p l e R s m args below meth c H locs cells slots Q (F0 m (pc + 1) lsA (xcv q (0, xi2b x) :: r.map (xcv q))) := hok
    rw [e5] at hok
    exact lv_i2b hx hb hdg rfl hok
  case i2s =>
    have hz : (decide (o = (5, 3, 0, 0, [])) && Nat.beq len 1) = true := hchk
    simp only [Bool.and_eq_true, decide_eq_true_eq, Nat.beq_eq] at hz
    obtain ⟨rfl, rfl⟩ := hz
    have h : xs5 3 (pc + _) ls st g t = some z := h
    obtain ⟨⟨tg, x⟩, r, w, rfl, hw, rfl⟩ := xs5_inv h
    obtain ⟨hv1, hr1⟩ := hstc rfl
    dsimp only at kk
    simp only [Nat.sub_self, Nat.add_zero] at kk
    have hok := kk lsA H locs hL (cons (xun_ok hv1 hw) hr1) hH hce
    have htg : tg = 0 := by
      rcases tg with _ | _ | tg
      · rfl
      · cases hw
      · cases hw
    subst htg
    have hw : some ((0, xi2s x) : xV) = some w := hw
    cases hw
    have e5 : xcv q (0, xi2s x) = .int _ := (xcv_i q _).trans (congrArg Value.int (Int32.ofInt_toInt _))
    have hok : W p l e R s m args below meth c H locs cells slots Q (F0 m (pc + 1) lsA (xcv q (0, xi2s x) :: r.map (xcv q))) := hok
    rw [e5] at hok
    exact lv_i2s hx hb hdg rfl hok
  case lneg =>
    have hz : (decide (o = (5, 4, 0, 0, [])) && Nat.beq len 1) = true := hchk
    simp only [Bool.and_eq_true, decide_eq_true_eq, Nat.beq_eq] at hz
    obtain ⟨rfl, rfl⟩ := hz
    have h : xs5 4 (pc + _) ls st g t = some z := h
    obtain ⟨⟨tg, x⟩, r, w, rfl, hw, rfl⟩ := xs5_inv h
    obtain ⟨hv1, hr1⟩ := hstc rfl
    dsimp only at kk
    simp only [Nat.sub_self, Nat.add_zero] at kk
    have hok := kk lsA H locs hL (cons (xun_ok hv1 hw) hr1) hH hce
    have htg : tg = 1 := by
      rcases tg with _ | _ | tg
      · cases hw
      · rfl
      · cases hw
    subst htg
    have hw : some ((1, xlneg x) : xV) = some w := hw
    cases hw
    have e5 : xcv q (1, xlneg x) = .long _ := (xcv_l q _).trans (congrArg Value.long (Int64.ofInt_toInt _))
    have hok : W p l e R s m args below meth c H locs cells slots Q (F0 m (pc + 1) lsA (xcv q (1, xlneg x) :: r.map (xcv q))) := hok
    rw [e5] at hok
    exact lv_lneg hx hb hdg hok
  case ladd =>
    have hz : (decide (o = (6, 0, 0, 0, [])) && Nat.beq len 1) = true := hchk
    simp only [Bool.and_eq_true, decide_eq_true_eq, Nat.beq_eq] at hz
    obtain ⟨rfl, rfl⟩ := hz
    have h : xs6 0 (pc + _) ls st g t = some z := h
    obtain ⟨b0, y2, x, r, w, rfl, hb0, hw, rfl⟩ := xs6_inv h
    have hb0 : b0 = 1 := hb0
    subst hb0
    obtain ⟨hv1, hr1⟩ := hstc rfl
    have hv2 := hr1 _ List.mem_cons_self
    have hr2 : ∀ w ∈ r, xokv w := fun w hw => hr1 w (List.mem_cons_of_mem _ hw)
    dsimp only at kk
    simp only [Nat.sub_self, Nat.add_zero] at kk
    have hok := kk lsA H locs hL (cons (xlbin_ok hw) hr2) hH hce
    have hw : some ((1, xladd x y2) : xV) = some w := hw
    cases hw
    refine lv_ladd hx hb hdg ?_
    have e5 : xcv q (1, xladd x y2) = .long _ := (xcv_l q _).trans (congrArg Value.long (Int64.ofInt_toInt _))
    have hok : W p l e R s m args below meth c H locs cells slots Q (F0 m (pc + 1) lsA (xcv q (1, xladd x y2) :: r.map (xcv q))) := hok
    rw [e5] at hok
    exact hok
  case land =>
    have hz : (decide (o = (6, 1, 0, 0, [])) && Nat.beq len 1) = true := hchk
    simp only [Bool.and_eq_true, decide_eq_true_eq, Nat.beq_eq] at hz
    obtain ⟨rfl, rfl⟩ := hz
    have h : xs6 1 (pc + _) ls st g t = some z := h
    obtain ⟨b0, y2, x, r, w, rfl, hb0, hw, rfl⟩ := xs6_inv h
    have hb0 : b0 = 1 := hb0
    subst hb0
    obtain ⟨hv1, hr1⟩ := hstc rfl
    have hv2 := hr1 _ List.mem_cons_self
    have hr2 : ∀ w ∈ r, xokv w := fun w hw => hr1 w (List.mem_cons_of_mem _ hw)
    dsimp only at kk
    simp only [Nat.sub_self, Nat.add_zero] at kk
    have hok := kk lsA H locs hL (cons (xlbin_ok hw) hr2) hH hce
    have hw : some ((1, xland x y2) : xV) = some w := hw
    cases hw
    refine lv_land hx hb hdg ?_
    have e5 : xcv q (1, xland x y2) = .long _ := (xcv_l q _).trans (congrArg Value.long (Int64.ofInt_toInt _))
    have hok : W p l e R s m args below meth c H locs cells slots Q (F0 m (pc + 1) lsA (xcv q (1, xland x y2) :: r.map (xcv q))) := hok
    rw [e5] at hok
    exact hok
  case lor =>
    have hz : (decide (o = (6, 2, 0, 0, [])) && Nat.beq len 1) = true := hchk
    simp only [Bool.and_eq_true, decide_eq_true_eq, Nat.beq_eq] at hz
    obtain ⟨rfl, rfl⟩ := hz
    have h : xs6 2 (pc + _) ls st g t = some z := h
    obtain ⟨b0, y2, x, r, w, rfl, hb0, hw, rfl⟩ := xs6_inv h
    have hb0 : b0 = 1 := hb0
    subst hb0
    obtain ⟨hv1, hr1⟩ := hstc rfl
    have hv2 := hr1 _ List.mem_cons_self
    have hr2 : ∀ w ∈ r, xokv w := fun w hw => hr1 w (List.mem_cons_of_mem _ hw)
    dsimp only at kk
    simp only [Nat.sub_self, Nat.add_zero] at kk
    have hok := kk lsA H locs hL (cons (xlbin_ok hw) hr2) hH hce
    have hw : some ((1, xlor x y2) : xV) = some w := hw
    cases hw
    refine lv_lor hx hb hdg ?_
    have e5 : xcv q (1, xlor x y2) = .long _ := (xcv_l q _).trans (congrArg Value.long (Int64.ofInt_toInt _))
    have hok : W p l e R s m args below meth c H locs cells slots Q (F0 m (pc + 1) lsA (xcv q (1, xlor x y2) :: r.map (xcv q))) := hok
    rw [e5] at hok
    exact hok
  case ldiv =>
    have hz : (decide (o = (6, 4, 0, 0, [])) && Nat.beq len 1) = true := hchk
    simp only [Bool.and_eq_true, decide_eq_true_eq, Nat.beq_eq] at hz
    obtain ⟨rfl, rfl⟩ := hz
    have h : xs6 4 (pc + _) ls st g t = some z := h
    obtain ⟨b0, y2, x, r, w, rfl, hb0, hw, rfl⟩ := xs6_inv h
    have hb0 : b0 = 1 := hb0
    subst hb0
    obtain ⟨hv1, hr1⟩ := hstc rfl
    have hv2 := hr1 _ List.mem_cons_self
    have hr2 : ∀ w ∈ r, xokv w := fun w hw => hr1 w (List.mem_cons_of_mem _ hw)
    dsimp only at kk
    simp only [Nat.sub_self, Nat.add_zero] at kk
    have hok := kk lsA H locs hL (cons (xlbin_ok hw) hr2) hH hce
    have hw : (if y2 = 0 then none else some ((1, xldiv x y2) : xV)) = some w := hw
    by_cases e0 : y2 = 0
    · rw [if_pos e0] at hw; cases hw
    rw [if_neg e0] at hw
    cases hw
    refine lv_ldiv hx hb hdg (fun z => e0 ((xeq64 (hv1.2 rfl) ⟨by decide, by decide⟩).mp z)) ?_
    have e5 : xcv q (1, xldiv x y2) = .long _ := (xcv_l q _).trans (congrArg Value.long (Int64.ofInt_toInt _))
    have hok : W p l e R s m args below meth c H locs cells slots Q (F0 m (pc + 1) lsA (xcv q (1, xldiv x y2) :: r.map (xcv q))) := hok
    rw [e5] at hok
    exact hok
  case lrem =>
    have hz : (decide (o = (6, 5, 0, 0, [])) && Nat.beq len 1) = true := hchk
    simp only [Bool.and_eq_true, decide_eq_true_eq, Nat.beq_eq] at hz
    obtain ⟨rfl, rfl⟩ := hz
    have h : xs6 5 (pc + _) ls st g t = some z := h
    obtain ⟨b0, y2, x, r, w, rfl, hb0, hw, rfl⟩ := xs6_inv h
    have hb0 : b0 = 1 := hb0
    subst hb0
    obtain ⟨hv1, hr1⟩ := hstc rfl
    have hv2 := hr1 _ List.mem_cons_self
    have hr2 : ∀ w ∈ r, xokv w := fun w hw => hr1 w (List.mem_cons_of_mem _ hw)
    dsimp only at kk
    simp only [Nat.sub_self, Nat.add_zero] at kk
    have hok := kk lsA H locs hL (cons (xlbin_ok hw) hr2) hH hce
    have hw : (if y2 = 0 then none else some ((1, xlrem x y2) : xV)) = some w := hw
    by_cases e0 : y2 = 0
    · rw [if_pos e0] at hw; cases hw
    rw [if_neg e0] at hw
    cases hw
    refine lv_lrem hx hb hdg (fun z => e0 ((xeq64 (hv1.2 rfl) ⟨by decide, by decide⟩).mp z)) ?_
    have e5 : xcv q (1, xlrem x y2) = .long _ := (xcv_l q _).trans (congrArg Value.long (Int64.ofInt_toInt _))
    have hok : W p l e R s m args below meth c H locs cells slots Q (F0 m (pc + 1) lsA (xcv q (1, xlrem x y2) :: r.map (xcv q))) := hok
    rw [e5] at hok
    exact hok
  case lshl =>
    have hz : (decide (o = (6, 6, 0, 0, [])) && Nat.beq len 1) = true := hchk
    simp only [Bool.and_eq_true, decide_eq_true_eq, Nat.beq_eq] at hz
    obtain ⟨rfl, rfl⟩ := hz
    have h : xs6 6 (pc + _) ls st g t = some z := h
    obtain ⟨b0, y2, x, r, w, rfl, hb0, hw, rfl⟩ := xs6_inv h
    have hb0 : b0 = 0 := hb0
    subst hb0
    obtain ⟨hv1, hr1⟩ := hstc rfl
    have hv2 := hr1 _ List.mem_cons_self
    have hr2 : ∀ w ∈ r, xokv w := fun w hw => hr1 w (List.mem_cons_of_mem _ hw)
    dsimp only at kk
    simp only [Nat.sub_self, Nat.add_zero] at kk
    have hok := kk lsA H locs hL (cons (xlbin_ok hw) hr2) hH hce
    have hw : some ((1, xlshl x y2) : xV) = some w := hw
    cases hw
    refine lv_lshl hx hb hdg rfl ?_
    have e5 : xcv q (1, xlshl x y2) = .long _ := (xcv_l q _).trans (congrArg Value.long (Int64.ofInt_toInt _))
    have hok : W p l e R s m args below meth c H locs cells slots Q (F0 m (pc + 1) lsA (xcv q (1, xlshl x y2) :: r.map (xcv q))) := hok
    rw [e5] at hok
    exact hok
  case lushr =>
    have hz : (decide (o = (6, 7, 0, 0, [])) && Nat.beq len 1) = true := hchk
    simp only [Bool.and_eq_true, decide_eq_true_eq, Nat.beq_eq] at hz
    obtain ⟨rfl, rfl⟩ := hz
    have h : xs6 7 (pc + _) ls st g t = some z := h
    obtain ⟨b0, y2, x, r, w, rfl, hb0, hw, rfl⟩ := xs6_inv h
    have hb0 : b0 = 0 := hb0
    subst hb0
    obtain ⟨hv1, hr1⟩ := hstc rfl
    have hv2 := hr1 _ List.mem_cons_self
    have hr2 : ∀ w ∈ r, xokv w := fun w hw => hr1 w (List.mem_cons_of_mem _ hw)
    dsimp only at kk
    simp only [Nat.sub_self, Nat.add_zero] at kk
    have hok := kk lsA H locs hL (cons (xlbin_ok hw) hr2) hH hce
    have hw : some ((1, xlushr x y2) : xV) = some w := hw
    cases hw
    refine lv_lushr hx hb hdg rfl ?_
    have e5 : xcv q (1, xlushr x y2) = .long _ := (xcv_l q _).trans (congrArg Value.long (Int64.ofInt_toInt _))
    have hok : W p l e R s m args below meth c H locs cells slots Q (F0 m (pc + 1) lsA (xcv q (1, xlushr x y2) :: r.map (xcv q))) := hok
    rw [e5] at hok
    exact hok
  case lcmp =>
    have hz : (decide (o = (6, 8, 0, 0, [])) && Nat.beq len 1) = true := hchk
    simp only [Bool.and_eq_true, decide_eq_true_eq, Nat.beq_eq] at hz
    obtain ⟨rfl, rfl⟩ := hz
    have h : xs6 8 (pc + _) ls st g t = some z := h
    obtain ⟨b0, y2, x, r, w, rfl, hb0, hw, rfl⟩ := xs6_inv h
    have hb0 : b0 = 1 := hb0
    subst hb0
    obtain ⟨hv1, hr1⟩ := hstc rfl
    have hv2 := hr1 _ List.mem_cons_self
    have hr2 : ∀ w ∈ r, xokv w := fun w hw => hr1 w (List.mem_cons_of_mem _ hw)
    dsimp only at kk
    simp only [Nat.sub_self, Nat.add_zero] at kk
    have hok := kk lsA H locs hL (cons (xlbin_ok hw) hr2) hH hce
    have hw : some ((0, xlcmp x y2) : xV) = some w := hw
    cases hw
    have e6 : Int32.ofInt (xlcmp x y2) = lg_cmp (Int64.ofInt x) (Int64.ofInt y2) := by
      unfold xlcmp lg_cmp
      by_cases e1 : y2 < x
      · rw [if_pos e1, if_pos ((xlt64 (hv1.2 rfl) (hv2.2 rfl)).mpr e1)]; rfl
      · rw [if_neg e1, if_neg (fun z => e1 ((xlt64 (hv1.2 rfl) (hv2.2 rfl)).mp z))]
        by_cases e2 : x = y2
        · rw [if_pos e2, if_pos (by rw [e2])]; rfl
        · rw [if_neg e2, if_neg (fun z => e2 ((xeq64 (hv2.2 rfl) (hv1.2 rfl)).mp z))]; rfl
    refine W.lcmp hx hb hdg ?_
    rw [← e6]
    exact hok
  case ifCond op off =>
    cases op
    case eq =>
      have hz : (decide (o = (7, 0, o.2.2.1, 0, [])) && Nat.beq len 3 && decide ((pc : Int) + off = (o.2.2.1 : Int))) = true := hchk
      simp only [Bool.and_eq_true, decide_eq_true_eq, Nat.beq_eq] at hz
      obtain ⟨⟨ho, rfl⟩, htg⟩ := hz
      generalize o.2.2.1 = tgt at ho htg
      subst ho
      have h : xs7 0 tgt (pc + 3) ls st g t = some z := h
      obtain ⟨x, r, rfl, rfl⟩ := xs7_inv h
      obtain ⟨hv1, hr1⟩ := hstc rfl
      have hx1 := hv1.1 rfl
      have hy1 : xr32 0 := ⟨by decide, by decide⟩
      dsimp only at kk
      simp only [Nat.sub_self, Nat.add_zero] at kk
      have kk := kk lsA H locs hL hr1 hH hce
      have hiff := xeq32 hx1 hy1
      rw [x0_32] at hiff
      have hcb := xcondb_iff 0 x 0
      refine lv_if_eq (tgt := tgt) hx hb hdg htg (fun hc1 => ?_) (fun hc1 => ?_)
      · rw [if_pos (hcb.mpr (hiff.mp hc1))] at kk; exact kk
      · rw [if_neg (fun w => hc1 (hiff.mpr (hcb.mp w)))] at kk; exact kk
    case ne =>
      have hz : (decide (o = (7, 1, o.2.2.1, 0, [])) && Nat.beq len 3 && decide ((pc : Int) + off = (o.2.2.1 : Int))) = true := hchk
      simp only [Bool.and_eq_true, decide_eq_true_eq, Nat.beq_eq] at hz
      obtain ⟨⟨ho, rfl⟩, htg⟩ := hz
      generalize o.2.2.1 = tgt at ho htg
      subst ho
      have h : xs7 1 tgt (pc + 3) ls st g t = some z := h
      obtain ⟨x, r, rfl, rfl⟩ := xs7_inv h
      obtain ⟨hv1, hr1⟩ := hstc rfl
      have hx1 := hv1.1 rfl
      have hy1 : xr32 0 := ⟨by decide, by decide⟩
      dsimp only at kk
      simp only [Nat.sub_self, Nat.add_zero] at kk
      have kk := kk lsA H locs hL hr1 hH hce
      have hiff := not_congr (xeq32 hx1 hy1)
      rw [x0_32] at hiff
      have hcb := xcondb_iff 1 x 0
      refine lv_if_ne (tgt := tgt) hx hb hdg htg (fun hc1 => ?_) (fun hc1 => ?_)
      · rw [if_pos (hcb.mpr (hiff.mp hc1))] at kk; exact kk
      · rw [if_neg (fun w => (hiff.mpr (hcb.mp w)) hc1)] at kk; exact kk
    case lt =>
      have hz : (decide (o = (7, 2, o.2.2.1, 0, [])) && Nat.beq len 3 && decide ((pc : Int) + off = (o.2.2.1 : Int))) = true := hchk
      simp only [Bool.and_eq_true, decide_eq_true_eq, Nat.beq_eq] at hz
      obtain ⟨⟨ho, rfl⟩, htg⟩ := hz
      generalize o.2.2.1 = tgt at ho htg
      subst ho
      have h : xs7 2 tgt (pc + 3) ls st g t = some z := h
      obtain ⟨x, r, rfl, rfl⟩ := xs7_inv h
      obtain ⟨hv1, hr1⟩ := hstc rfl
      have hx1 := hv1.1 rfl
      have hy1 : xr32 0 := ⟨by decide, by decide⟩
      dsimp only at kk
      simp only [Nat.sub_self, Nat.add_zero] at kk
      have kk := kk lsA H locs hL hr1 hH hce
      have hiff := xlt32 hx1 hy1
      rw [x0_32] at hiff
      have hcb := xcondb_iff 2 x 0
      refine lv_if_lt (tgt := tgt) hx hb hdg htg (fun hc1 => ?_) (fun hc1 => ?_)
      · rw [if_pos (hcb.mpr (hiff.mp hc1))] at kk; exact kk
      · rw [if_neg (fun w => hc1 (hiff.mpr (hcb.mp w)))] at kk; exact kk
    case ge =>
      have hz : (decide (o = (7, 3, o.2.2.1, 0, [])) && Nat.beq len 3 && decide ((pc : Int) + off = (o.2.2.1 : Int))) = true := hchk
      simp only [Bool.and_eq_true, decide_eq_true_eq, Nat.beq_eq] at hz
      obtain ⟨⟨ho, rfl⟩, htg⟩ := hz
      generalize o.2.2.1 = tgt at ho htg
      subst ho
      have h : xs7 3 tgt (pc + 3) ls st g t = some z := h
      obtain ⟨x, r, rfl, rfl⟩ := xs7_inv h
      obtain ⟨hv1, hr1⟩ := hstc rfl
      have hx1 := hv1.1 rfl
      have hy1 : xr32 0 := ⟨by decide, by decide⟩
      dsimp only at kk
      simp only [Nat.sub_self, Nat.add_zero] at kk
      have kk := kk lsA H locs hL hr1 hH hce
      have hiff := xle32 hy1 hx1
      rw [x0_32] at hiff
      have hcb := xcondb_iff 3 x 0
      refine lv_if_ge (tgt := tgt) hx hb hdg htg (fun hc1 => ?_) (fun hc1 => ?_)
      · rw [if_pos (hcb.mpr (hiff.mp hc1))] at kk; exact kk
      · rw [if_neg (fun w => hc1 (hiff.mpr (hcb.mp w)))] at kk; exact kk
    case gt =>
      have hz : (decide (o = (7, 4, o.2.2.1, 0, [])) && Nat.beq len 3 && decide ((pc : Int) + off = (o.2.2.1 : Int))) = true := hchk
      simp only [Bool.and_eq_true, decide_eq_true_eq, Nat.beq_eq] at hz
      obtain ⟨⟨ho, rfl⟩, htg⟩ := hz
      generalize o.2.2.1 = tgt at ho htg
      subst ho
      have h : xs7 4 tgt (pc + 3) ls st g t = some z := h
      obtain ⟨x, r, rfl, rfl⟩ := xs7_inv h
      obtain ⟨hv1, hr1⟩ := hstc rfl
      have hx1 := hv1.1 rfl
      have hy1 : xr32 0 := ⟨by decide, by decide⟩
      dsimp only at kk
      simp only [Nat.sub_self, Nat.add_zero] at kk
      have kk := kk lsA H locs hL hr1 hH hce
      have hiff := xlt32 hy1 hx1
      rw [x0_32] at hiff
      have hcb := xcondb_iff 4 x 0
      refine lv_if_gt (tgt := tgt) hx hb hdg htg (fun hc1 => ?_) (fun hc1 => ?_)
      · rw [if_pos (hcb.mpr (hiff.mp hc1))] at kk; exact kk
      · rw [if_neg (fun w => hc1 (hiff.mpr (hcb.mp w)))] at kk; exact kk
    case le =>
      have hz : (decide (o = (7, 5, o.2.2.1, 0, [])) && Nat.beq len 3 && decide ((pc : Int) + off = (o.2.2.1 : Int))) = true := hchk
      simp only [Bool.and_eq_true, decide_eq_true_eq, Nat.beq_eq] at hz
      obtain ⟨⟨ho, rfl⟩, htg⟩ := hz
      generalize o.2.2.1 = tgt at ho htg
      subst ho
      have h : xs7 5 tgt (pc + 3) ls st g t = some z := h
      obtain ⟨x, r, rfl, rfl⟩ := xs7_inv h
      obtain ⟨hv1, hr1⟩ := hstc rfl
      have hx1 := hv1.1 rfl
      have hy1 : xr32 0 := ⟨by decide, by decide⟩
      dsimp only at kk
      simp only [Nat.sub_self, Nat.add_zero] at kk
      have kk := kk lsA H locs hL hr1 hH hce
      have hiff := xle32 hx1 hy1
      rw [x0_32] at hiff
      have hcb := xcondb_iff 5 x 0
      refine lv_if_le (tgt := tgt) hx hb hdg htg (fun hc1 => ?_) (fun hc1 => ?_)
      · rw [if_pos (hcb.mpr (hiff.mp hc1))] at kk; exact kk
      · rw [if_neg (fun w => hc1 (hiff.mpr (hcb.mp w)))] at kk; exact kk
  case if_icmp op off =>
    cases op
    case eq =>
      have hz : (decide (o = (8, 0, o.2.2.1, 0, [])) && Nat.beq len 3 && decide ((pc : Int) + off = (o.2.2.1 : Int))) = true := hchk
      simp only [Bool.and_eq_true, decide_eq_true_eq, Nat.beq_eq] at hz
      obtain ⟨⟨ho, rfl⟩, htg⟩ := hz
      generalize o.2.2.1 = tgt at ho htg
      subst ho
      have h : xs8 0 tgt (pc + 3) ls st g t = some z := h
      obtain ⟨y2, x, r, rfl, rfl⟩ := xs8_inv h
      obtain ⟨hv1, hr0⟩ := hstc rfl
      have hx1 : xr32 x := (hr0 _ List.mem_cons_self).1 rfl
      have hy1 : xr32 y2 := hv1.1 rfl
      have hr1 : ∀ w ∈ r, xokv w := fun w hw => hr0 w (List.mem_cons_of_mem _ hw)
      dsimp only at kk
      simp only [Nat.sub_self, Nat.add_zero] at kk
      have kk := kk lsA H locs hL hr1 hH hce
      have hiff := xeq32 hx1 hy1
      have hcb := xcondb_iff 0 x y2
      refine lv_icmp_eq (tgt := tgt) hx hb hdg htg (fun hc1 => ?_) (fun hc1 => ?_)
      · rw [if_pos (hcb.mpr (hiff.mp hc1))] at kk; exact kk
      · rw [if_neg (fun w => hc1 (hiff.mpr (hcb.mp w)))] at kk; exact kk
    case ne =>
      have hz : (decide (o = (8, 1, o.2.2.1, 0, [])) && Nat.beq len 3 && decide ((pc : Int) + off = (o.2.2.1 : Int))) = true := hchk
      simp only [Bool.and_eq_true, decide_eq_true_eq, Nat.beq_eq] at hz
      obtain ⟨⟨ho, rfl⟩, htg⟩ := hz
      generalize o.2.2.1 = tgt at ho htg
      subst ho
      have h : xs8 1 tgt (pc + 3) ls st g t = some z := h
      obtain ⟨y2, x, r, rfl, rfl⟩ := xs8_inv h
      obtain ⟨hv1, hr0⟩ := hstc rfl
      have hx1 : xr32 x := (hr0 _ List.mem_cons_self).1 rfl
      have hy1 : xr32 y2 := hv1.1 rfl
      have hr1 : ∀ w ∈ r, xokv w := fun w hw => hr0 w (List.mem_cons_of_mem _ hw)
      dsimp only at kk
      simp only [Nat.sub_self, Nat.add_zero] at kk
      have kk := kk lsA H locs hL hr1 hH hce
      have hiff := not_congr (xeq32 hx1 hy1)
      have hcb := xcondb_iff 1 x y2
      refine lv_icmp_ne (tgt := tgt) hx hb hdg htg (fun hc1 => ?_) (fun hc1 => ?_)
      · rw [if_pos (hcb.mpr (hiff.mp hc1))] at kk; exact kk
      · rw [if_neg (fun w => (hiff.mpr (hcb.mp w)) hc1)] at kk; exact kk
    case lt =>
      have hz : (decide (o = (8, 2, o.2.2.1, 0, [])) && Nat.beq len 3 && decide ((pc : Int) + off = (o.2.2.1 : Int))) = true := hchk
      simp only [Bool.and_eq_true, decide_eq_true_eq, Nat.beq_eq] at hz
      obtain ⟨⟨ho, rfl⟩, htg⟩ := hz
      generalize o.2.2.1 = tgt at ho htg
      subst ho
      have h : xs8 2 tgt (pc + 3) ls st g t = some z := h
      obtain ⟨y2, x, r, rfl, rfl⟩ := xs8_inv h
      obtain ⟨hv1, hr0⟩ := hstc rfl
      have hx1 : xr32 x := (hr0 _ List.mem_cons_self).1 rfl
      have hy1 : xr32 y2 := hv1.1 rfl
      have hr1 : ∀ w ∈ r, xokv w := fun w hw => hr0 w (List.mem_cons_of_mem _ hw)
      dsimp only at kk
      simp only [Nat.sub_self, Nat.add_zero] at kk
      have kk := kk lsA H locs hL hr1 hH hce
      have hiff := xlt32 hx1 hy1
      have hcb := xcondb_iff 2 x y2
      refine lv_icmp_lt (tgt := tgt) hx hb hdg htg (fun hc1 => ?_) (fun hc1 => ?_)
      · rw [if_pos (hcb.mpr (hiff.mp hc1))] at kk; exact kk
      · rw [if_neg (fun w => hc1 (hiff.mpr (hcb.mp w)))] at kk; exact kk
    case ge =>
      have hz : (decide (o = (8, 3, o.2.2.1, 0, [])) && Nat.beq len 3 && decide ((pc : Int) + off = (o.2.2.1 : Int))) = true := hchk
      simp only [Bool.and_eq_true, decide_eq_true_eq, Nat.beq_eq] at hz
      obtain ⟨⟨ho, rfl⟩, htg⟩ := hz
      generalize o.2.2.1 = tgt at ho htg
      subst ho
      have h : xs8 3 tgt (pc + 3) ls st g t = some z := h
      obtain ⟨y2, x, r, rfl, rfl⟩ := xs8_inv h
      obtain ⟨hv1, hr0⟩ := hstc rfl
      have hx1 : xr32 x := (hr0 _ List.mem_cons_self).1 rfl
      have hy1 : xr32 y2 := hv1.1 rfl
      have hr1 : ∀ w ∈ r, xokv w := fun w hw => hr0 w (List.mem_cons_of_mem _ hw)
      dsimp only at kk
      simp only [Nat.sub_self, Nat.add_zero] at kk
      have kk := kk lsA H locs hL hr1 hH hce
      have hiff := xle32 hy1 hx1
      have hcb := xcondb_iff 3 x y2
      refine lv_icmp_ge (tgt := tgt) hx hb hdg htg (fun hc1 => ?_) (fun hc1 => ?_)
      · rw [if_pos (hcb.mpr (hiff.mp hc1))] at kk; exact kk
      · rw [if_neg (fun w => hc1 (hiff.mpr (hcb.mp w)))] at kk; exact kk
    case gt =>
      have hz : (decide (o = (8, 4, o.2.2.1, 0, [])) && Nat.beq len 3 && decide ((pc : Int) + off = (o.2.2.1 : Int))) = true := hchk
      simp only [Bool.and_eq_true, decide_eq_true_eq, Nat.beq_eq] at hz
      obtain ⟨⟨ho, rfl⟩, htg⟩ := hz
      generalize o.2.2.1 = tgt at ho htg
      subst ho
      have h : xs8 4 tgt (pc + 3) ls st g t = some z := h
      obtain ⟨y2, x, r, rfl, rfl⟩ := xs8_inv h
      obtain ⟨hv1, hr0⟩ := hstc rfl
      have hx1 : xr32 x := (hr0 _ List.mem_cons_self).1 rfl
      have hy1 : xr32 y2 := hv1.1 rfl
      have hr1 : ∀ w ∈ r, xokv w := fun w hw => hr0 w (List.mem_cons_of_mem _ hw)
      dsimp only at kk
      simp only [Nat.sub_self, Nat.add_zero] at kk
      have kk := kk lsA H locs hL hr1 hH hce
      have hiff := xlt32 hy1 hx1
      have hcb := xcondb_iff 4 x y2
      refine lv_icmp_gt (tgt := tgt) hx hb hdg htg (fun hc1 => ?_) (fun hc1 => ?_)
      · rw [if_pos (hcb.mpr (hiff.mp hc1))] at kk; exact kk
      · rw [if_neg (fun w => hc1 (hiff.mpr (hcb.mp w)))] at kk; exact kk
    case le =>
      have hz : (decide (o = (8, 5, o.2.2.1, 0, [])) && Nat.beq len 3 && decide ((pc : Int) + off = (o.2.2.1 : Int))) = true := hchk
      simp only [Bool.and_eq_true, decide_eq_true_eq, Nat.beq_eq] at hz
      obtain ⟨⟨ho, rfl⟩, htg⟩ := hz
      generalize o.2.2.1 = tgt at ho htg
      subst ho
      have h : xs8 5 tgt (pc + 3) ls st g t = some z := h
      obtain ⟨y2, x, r, rfl, rfl⟩ := xs8_inv h
      obtain ⟨hv1, hr0⟩ := hstc rfl
      have hx1 : xr32 x := (hr0 _ List.mem_cons_self).1 rfl
      have hy1 : xr32 y2 := hv1.1 rfl
      have hr1 : ∀ w ∈ r, xokv w := fun w hw => hr0 w (List.mem_cons_of_mem _ hw)
      dsimp only at kk
      simp only [Nat.sub_self, Nat.add_zero] at kk
      have kk := kk lsA H locs hL hr1 hH hce
      have hiff := xle32 hx1 hy1
      have hcb := xcondb_iff 5 x y2
      refine lv_icmp_le (tgt := tgt) hx hb hdg htg (fun hc1 => ?_) (fun hc1 => ?_)
      · rw [if_pos (hcb.mpr (hiff.mp hc1))] at kk; exact kk
      · rw [if_neg (fun w => hc1 (hiff.mpr (hcb.mp w)))] at kk; exact kk
  case goto off =>
    have hz : (decide (o = (9, o.2.1, 0, 0, [])) && Nat.beq len 3 && decide ((pc : Int) + off = (o.2.1 : Int))) = true := hchk
    simp only [Bool.and_eq_true, decide_eq_true_eq, Nat.beq_eq] at hz
    obtain ⟨⟨ho, rfl⟩, htg⟩ := hz
    generalize o.2.1 = tgt at ho htg
    subst ho
    have h : some (tgt, ls, st, g, t) = some z := h
    cases h
    dsimp only at kk
    simp only [Nat.sub_self, Nat.add_zero] at kk
    exact lv_goto (tgt := tgt) hx hb hdg htg (kk lsA H locs hL hst hH hce)
  case tableswitch dflt lo hi offs =>
    have hz : (decide (o = (10, o.2.1, 0, lo, o.2.2.2.2)) && decide ((pc : Int) + dflt = (o.2.1 : Int)) && decide (hi + 1 = lo + (o.2.2.2.2.length : Int)) && decide (o.2.2.2.2.map (fun (z : Nat) => (z : Int)) = offs.toList.map (fun z => (pc : Int) + z))) = true := hchk
    simp only [Bool.and_eq_true, decide_eq_true_eq] at hz
    obtain ⟨⟨⟨ho, htg⟩, hhi⟩, hts2⟩ := hz
    generalize o.2.1 = tgt at ho htg
    generalize o.2.2.2.2 = ts at ho hhi hts2
    subst ho
    have h : xs10 tgt lo ts ls st g t = some z := h
    obtain ⟨x, r, rfl, hh⟩ := xs10_inv h
    obtain ⟨hv1, hr1⟩ := hstc rfl
    have hx1 := xto32 (hv1.1 rfl)
    rcases hh with ⟨hout, rfl⟩ | ⟨hin, w, hw, rfl⟩
    · dsimp only at kk
      simp only [Nat.sub_self, Nat.add_zero] at kk
      refine lv_tableOut (tgt := tgt) hx hb hdg ?_ htg (kk lsA H locs hL hr1 hH hce)
      rw [hx1]
      omega
    · dsimp only at kk
      simp only [Nat.sub_self, Nat.add_zero] at kk
      have hget := congrArg (fun z => z[(x - lo).toNat]?) hts2
      simp only [List.getElem?_map, hw, Option.map_some] at hget
      obtain ⟨off, ho1, ho2⟩ := Option.map_eq_some_iff.mp hget.symm
      refine lv_tableIn (tgt := w) (off := off) hx hb hdg (by rw [hx1]; omega) (by rw [hx1]; omega) ?_ ho2 (kk lsA H locs hL hr1 hH hce)
      rw [hx1, ← Array.getElem?_toList]
      exact ho1
  case dup =>
    have hz : (decide (o = (11, 0, 0, 0, [])) && Nat.beq len 1) = true := hchk
    simp only [Bool.and_eq_true, decide_eq_true_eq, Nat.beq_eq] at hz
    obtain ⟨rfl, rfl⟩ := hz
    have h : xs11 (pc + 1) ls st g t = some z := h
    obtain ⟨v, r, rfl, hv, rfl⟩ := xs11_inv h
    obtain ⟨hv1, hr1⟩ := hstc rfl
    dsimp only at kk
    simp only [Nat.sub_self, Nat.add_zero] at kk
    exact lv_dup hx hb hdg (xneq1 hv) (kk lsA H locs hL (cons hv1 (cons hv1 hr1)) hH hce)
  case pop =>
    have hz : (decide (o = (12, 0, 0, 0, [])) && Nat.beq len 1) = true := hchk
    simp only [Bool.and_eq_true, decide_eq_true_eq, Nat.beq_eq] at hz
    obtain ⟨rfl, rfl⟩ := hz
    have h : xs12 (pc + 1) ls st g t = some z := h
    obtain ⟨v, r, rfl, hv, rfl⟩ := xs12_inv h
    obtain ⟨hv1, hr1⟩ := hstc rfl
    dsimp only at kk
    simp only [Nat.sub_self, Nat.add_zero] at kk
    exact lv_pop hx hb hdg (xneq1 hv) (kk lsA H locs hL hr1 hH hce)
  case dup_x1 =>
    have hz : (decide (o = (13, 0, 0, 0, [])) && Nat.beq len 1) = true := hchk
    simp only [Bool.and_eq_true, decide_eq_true_eq, Nat.beq_eq] at hz
    obtain ⟨rfl, rfl⟩ := hz
    have h : xs13 (pc + 1) ls st g t = some z := h
    obtain ⟨v, w, r, rfl, hv, rfl⟩ := xs13_inv h
    obtain ⟨hv1, hr1⟩ := hstc rfl
    have hw1 := hr1 _ List.mem_cons_self
    have hr2 : ∀ w ∈ r, xokv w := fun w hw => hr1 w (List.mem_cons_of_mem _ hw)
    dsimp only at kk
    simp only [Nat.sub_self, Nat.add_zero] at kk
    exact lv_dup_x1 hx hb hdg (xneq1 (fun z => hv (.inl z))) (xneq1 (fun z => hv (.inr z))) (kk lsA H locs hL (cons hv1 (cons hw1 (cons hv1 hr2))) hH hce)
  case dup2 =>
    have hz : (decide (o = (14, 0, 0, 0, [])) && Nat.beq len 1) = true := hchk
    simp only [Bool.and_eq_true, decide_eq_true_eq, Nat.beq_eq] at hz
    obtain ⟨rfl, rfl⟩ := hz
    have h : xs14 (pc + 1) ls st g t = some z := h
    obtain ⟨v, w, r, rfl, hv, rfl⟩ := xs14_inv h
    obtain ⟨hv1, hr1⟩ := hstc rfl
    have hw1 := hr1 _ List.mem_cons_self
    have hr2 : ∀ w ∈ r, xokv w := fun w hw => hr1 w (List.mem_cons_of_mem _ hw)
    dsimp only at kk
    simp only [Nat.sub_self, Nat.add_zero] at kk
    exact lv_dup2_11 hx hb hdg (xneq1 (fun z => hv (.inl z))) (xneq1 (fun z => hv (.inr z))) (kk lsA H locs hL (cons hv1 (cons hw1 (cons hv1 (cons hw1 hr2)))) hH hce)
  case getfield i =>
    cases hu : xFT[j]? with
    | none =>
      have hz : (match xFT[j]? with
        | some u => decide (u.1 = y.1.cls) && Nat.beq u.2.1 i && decide (o = (15, u.2.2.1, u.2.2.2, 0, [])) && Nat.beq len 3
        | none => false) = true := hchk
      rw [hu] at hz
      cases hz
    | some u =>
    have hz : (match xFT[j]? with
        | some u => decide (u.1 = y.1.cls) && Nat.beq u.2.1 i && decide (o = (15, u.2.2.1, u.2.2.2, 0, [])) && Nat.beq len 3
        | none => false) = true := hchk
    rw [hu] at hz
    simp only [Bool.and_eq_true, decide_eq_true_eq, Nat.beq_eq] at hz
    obtain ⟨⟨⟨hu1, hu2⟩, rfl⟩, rfl⟩ := hz
    obtain ⟨hci, hk⟩ := xft_ok u (List.mem_of_getElem? hu)
    obtain ⟨C, T, hcl, hty, hnm, hT⟩ := xcls hci
    have hlk := xlink hu hcl
    rw [hu1, hu2] at hlk
    have h : xs15 u.2.2.1 u.2.2.2 (pc + 3) ls st g t = some z := h
    obtain ⟨a, r, rfl, ho, rfl⟩ := xs15_inv h
    obtain ⟨hv1, hr1⟩ := hstc rfl
    dsimp only at kk
    simp only [Nat.sub_self, Nat.add_zero] at kk
    have kk := kk lsA H locs hL (cons (xslot_ok hH.2.2.2 hci ho) hr1) hH hce
    show W p l e R s m args below meth c H locs cells slots Q (F0 m pc lsA (xcv q (2, Int.ofNat a) :: r.map (xcv q)))
    rw [xcv_r]
    exact xs_getf hx hb hts hown hKn.1 hH hci hcl hlk (hT _ hk).1 ho hdg kk
  case putfield i =>
    cases hu : xFT[j]? with
    | none =>
      have hz : (match xFT[j]? with
        | some u => decide (u.1 = y.1.cls) && Nat.beq u.2.1 i && decide (o = (16, u.2.2.1, u.2.2.2, 0, [])) && Nat.beq len 3
        | none => false) = true := hchk
      rw [hu] at hz
      cases hz
    | some u =>
    have hz : (match xFT[j]? with
        | some u => decide (u.1 = y.1.cls) && Nat.beq u.2.1 i && decide (o = (16, u.2.2.1, u.2.2.2, 0, [])) && Nat.beq len 3
        | none => false) = true := hchk
    rw [hu] at hz
    simp only [Bool.and_eq_true, decide_eq_true_eq, Nat.beq_eq] at hz
    obtain ⟨⟨⟨hu1, hu2⟩, rfl⟩, rfl⟩ := hz
    obtain ⟨hci, hk⟩ := xft_ok u (List.mem_of_getElem? hu)
    obtain ⟨C, T, hcl, hty, hnm, hT⟩ := xcls hci
    have hlk := xlink hu hcl
    rw [hu1, hu2] at hlk
    have h : xs16 mi u.2.2.1 u.2.2.2 (pc + 3) ls st g t = some z := h
    obtain ⟨v, a, r, w, rfl, hp, rfl⟩ := xs16_inv h
    obtain ⟨hv1, hr1⟩ := hstc rfl
    have hr2 : ∀ w ∈ r, xokv w := fun w hw => hr1 w (List.mem_cons_of_mem _ hw)
    dsimp only at kk
    simp only [xput_g hp, Nat.sub_self, Nat.add_zero] at kk
    show W p l e R s m args below meth c H locs cells slots Q (F0 m pc lsA (xcv q v :: xcv q (2, Int.ofNat a) :: r.map (xcv q)))
    rw [xcv_r]
    refine xs_putf hx hb hts hown (fun z => hini (by rw [z] at hxin; exact of_decide_eq_true hxin.symm)) (by unfold xowny; rw [hy]) hce hKn.1 hH hv1 hci hcl hlk hT hty hnm hp hdg (fun H1 locs1 hH1 => ?_)
    refine kk lsA H1 locs1 hL hr2 hH1 ?_
    have e1 := hH1.1
    have e2 := hH.1
    rw [xput_g hp] at e1
    omega
  case iaload =>
    have hz : (decide (o = (17, 20, 0, 0, [])) && Nat.beq len 1) = true := hchk
    simp only [Bool.and_eq_true, decide_eq_true_eq, Nat.beq_eq] at hz
    obtain ⟨rfl, rfl⟩ := hz
    have h : xs17 20 (pc + 1) ls st g t = some z := h
    obtain ⟨i, a, r, v, rfl, hp, rfl⟩ := xs17_inv h
    obtain ⟨hv1, hr1⟩ := hstc rfl
    have hr2 : ∀ w ∈ r, xokv w := fun w hw => hr1 w (List.mem_cons_of_mem _ hw)
    dsimp only at kk
    simp only [Nat.sub_self, Nat.add_zero] at kk
    show W p l e R s m args below meth c H locs cells slots Q (F0 m pc lsA (.int (Int32.ofInt i) :: xcv q (2, Int.ofNat a) :: r.map (xcv q)))
    rw [xcv_r]
    exact xs_ald (kd := 20) hx hb hKn hH (by simp) (hv1.1 rfl) hp hdg (fun hok => kk lsA H locs hL (cons hok hr2) hH hce)
  case laload =>
    have hz : (decide (o = (17, 21, 0, 0, [])) && Nat.beq len 1) = true := hchk
    simp only [Bool.and_eq_true, decide_eq_true_eq, Nat.beq_eq] at hz
    obtain ⟨rfl, rfl⟩ := hz
    have h : xs17 21 (pc + 1) ls st g t = some z := h
    obtain ⟨i, a, r, v, rfl, hp, rfl⟩ := xs17_inv h
    obtain ⟨hv1, hr1⟩ := hstc rfl
    have hr2 : ∀ w ∈ r, xokv w := fun w hw => hr1 w (List.mem_cons_of_mem _ hw)
    dsimp only at kk
    simp only [Nat.sub_self, Nat.add_zero] at kk
    show W p l e R s m args below meth c H locs cells slots Q (F0 m pc lsA (.int (Int32.ofInt i) :: xcv q (2, Int.ofNat a) :: r.map (xcv q)))
    rw [xcv_r]
    exact xs_ald (kd := 21) hx hb hKn hH (by simp) (hv1.1 rfl) hp hdg (fun hok => kk lsA H locs hL (cons hok hr2) hH hce)
  case baload =>
    have hz : (decide (o = (17, 22, 0, 0, [])) && Nat.beq len 1) = true := hchk
    simp only [Bool.and_eq_true, decide_eq_true_eq, Nat.beq_eq] at hz
    obtain ⟨rfl, rfl⟩ := hz
    have h : xs17 22 (pc + 1) ls st g t = some z := h
    obtain ⟨i, a, r, v, rfl, hp, rfl⟩ := xs17_inv h
    obtain ⟨hv1, hr1⟩ := hstc rfl
    have hr2 : ∀ w ∈ r, xokv w := fun w hw => hr1 w (List.mem_cons_of_mem _ hw)
    dsimp only at kk
    simp only [Nat.sub_self, Nat.add_zero] at kk
    show W p l e R s m args below meth c H locs cells slots Q (F0 m pc lsA (.int (Int32.ofInt i) :: xcv q (2, Int.ofNat a) :: r.map (xcv q)))
    rw [xcv_r]
    exact xs_ald (kd := 22) hx hb hKn hH (by simp) (hv1.1 rfl) hp hdg (fun hok => kk lsA H locs hL (cons hok hr2) hH hce)
  case aaload =>
    have hz : (decide (o = (17, 23, 0, 0, [])) && Nat.beq len 1) = true := hchk
    simp only [Bool.and_eq_true, decide_eq_true_eq, Nat.beq_eq] at hz
    obtain ⟨rfl, rfl⟩ := hz
    have h : xs17 23 (pc + 1) ls st g t = some z := h
    obtain ⟨i, a, r, v, rfl, hp, rfl⟩ := xs17_inv h
    obtain ⟨hv1, hr1⟩ := hstc rfl
    have hr2 : ∀ w ∈ r, xokv w := fun w hw => hr1 w (List.mem_cons_of_mem _ hw)
    dsimp only at kk
    simp only [Nat.sub_self, Nat.add_zero] at kk
    show W p l e R s m args below meth c H locs cells slots Q (F0 m pc lsA (.int (Int32.ofInt i) :: xcv q (2, Int.ofNat a) :: r.map (xcv q)))
    rw [xcv_r]
    exact xs_ald (kd := 23) hx hb hKn hH (by simp) (hv1.1 rfl) hp hdg (fun hok => kk lsA H locs hL (cons hok hr2) hH hce)
  case iastore =>
    have hz : (decide (o = (18, 20, 0, 0, [])) && Nat.beq len 1) = true := hchk
    simp only [Bool.and_eq_true, decide_eq_true_eq, Nat.beq_eq] at hz
    obtain ⟨rfl, rfl⟩ := hz
    have h : xs18 20 (pc + 1) ls st g t = some z := h
    obtain ⟨v, i, a, r, w, rfl, hp, rfl⟩ := xs18_inv h
    obtain ⟨hv1, hr1⟩ := hstc rfl
    have hi1 := (hr1 _ List.mem_cons_self).1 rfl
    have hr2 : ∀ w ∈ r, xokv w := fun w hw => hr1 w (List.mem_cons_of_mem _ (List.mem_cons_of_mem _ hw))
    dsimp only at kk
    simp only [xast_g hp, Nat.sub_self, Nat.add_zero] at kk
    show W p l e R s m args below meth c H locs cells slots Q (F0 m pc lsA (xcv q v :: .int (Int32.ofInt i) :: xcv q (2, Int.ofNat a) :: r.map (xcv q)))
    rw [xcv_r]
    refine xs_ast (kd := 20) hx hb hKn hH hce (by simp) hi1 hv1 hp hdg (fun H1 locs1 hH1 => ?_)
    refine kk lsA H1 locs1 hL hr2 hH1 ?_
    have e1 := hH1.1
    have e2 := hH.1
    rw [xast_g hp] at e1
    omega
  case lastore =>
    have hz : (decide (o = (18, 21, 0, 0, [])) && Nat.beq len 1) = true := hchk
    simp only [Bool.and_eq_true, decide_eq_true_eq, Nat.beq_eq] at hz
    obtain ⟨rfl, rfl⟩ := hz
    have h : xs18 21 (pc + 1) ls st g t = some z := h
    obtain ⟨v, i, a, r, w, rfl, hp, rfl⟩ := xs18_inv h
    obtain ⟨hv1, hr1⟩ := hstc rfl
    have hi1 := (hr1 _ List.mem_cons_self).1 rfl
    have hr2 : ∀ w ∈ r, xokv w := fun w hw => hr1 w (List.mem_cons_of_mem _ (List.mem_cons_of_mem _ hw))
    dsimp only at kk
    simp only [xast_g hp, Nat.sub_self, Nat.add_zero] at kk
    show W p l e R s m args below meth c H locs cells slots Q (F0 m pc lsA (xcv q v :: .int (Int32.ofInt i) :: xcv q (2, Int.ofNat a) :: r.map (xcv q)))
    rw [xcv_r]
    refine xs_ast (kd := 21) hx hb hKn hH hce (by simp) hi1 hv1 hp hdg (fun H1 locs1 hH1 => ?_)
    refine kk lsA H1 locs1 hL hr2 hH1 ?_
    have e1 := hH1.1
    have e2 := hH.1
    rw [xast_g hp] at e1
    omega
  case bastore =>
    have hz : (decide (o = (18, 22, 0, 0, [])) && Nat.beq len 1) = true := hchk
    simp only [Bool.and_eq_true, decide_eq_true_eq, Nat.beq_eq] at hz
    obtain ⟨rfl, rfl⟩ := hz
    have h : xs18 22 (pc + 1) ls st g t = some z := h
    obtain ⟨v, i, a, r, w, rfl, hp, rfl⟩ := xs18_inv h
    obtain ⟨hv1, hr1⟩ := hstc rfl
    have hi1 := (hr1 _ List.mem_cons_self).1 rfl
    have hr2 : ∀ w ∈ r, xokv w := fun w hw => hr1 w (List.mem_cons_of_mem _ (List.mem_cons_of_mem _ hw))
    dsimp only at kk
    simp only [xast_g hp, Nat.sub_self, Nat.add_zero] at kk
    show W p l e R s m args below meth c H locs cells slots Q (F0 m pc lsA (xcv q v :: .int (Int32.ofInt i) :: xcv q (2, Int.ofNat a) :: r.map (xcv q)))
    rw [xcv_r]
    refine xs_ast (kd := 22) hx hb hKn hH hce (by simp) hi1 hv1 hp hdg (fun H1 locs1 hH1 => ?_)
    refine kk lsA H1 locs1 hL hr2 hH1 ?_
    have e1 := hH1.1
    have e2 := hH.1
    rw [xast_g hp] at e1
    omega
  case aastore =>
    have hz : (decide (o = (18, 23, 0, 0, [])) && Nat.beq len 1) = true := hchk
    simp only [Bool.and_eq_true, decide_eq_true_eq, Nat.beq_eq] at hz
    obtain ⟨rfl, rfl⟩ := hz
    have h : xs18 23 (pc + 1) ls st g t = some z := h
    obtain ⟨v, i, a, r, w, rfl, hp, rfl⟩ := xs18_inv h
    obtain ⟨hv1, hr1⟩ := hstc rfl
    have hi1 := (hr1 _ List.mem_cons_self).1 rfl
    have hr2 : ∀ w ∈ r, xokv w := fun w hw => hr1 w (List.mem_cons_of_mem _ (List.mem_cons_of_mem _ hw))
    dsimp only at kk
    simp only [xast_g hp, Nat.sub_self, Nat.add_zero] at kk
    show W p l e R s m args below meth c H locs cells slots Q (F0 m pc lsA (xcv q v :: .int (Int32.ofInt i) :: xcv q (2, Int.ofNat a) :: r.map (xcv q)))
    rw [xcv_r]
    refine xs_ast (kd := 23) hx hb hKn hH hce (by simp) hi1 hv1 hp hdg (fun H1 locs1 hH1 => ?_)
    refine kk lsA H1 locs1 hL hr2 hH1 ?_
    have e1 := hH1.1
    have e2 := hH.1
    rw [xast_g hp] at e1
    omega
  case arraylength =>
    have hz : (decide (o = (19, 0, 0, 0, [])) && Nat.beq len 1) = true := hchk
    simp only [Bool.and_eq_true, decide_eq_true_eq, Nat.beq_eq] at hz
    obtain ⟨rfl, rfl⟩ := hz
    have h : xs19 (pc + 1) ls st g t = some z := h
    obtain ⟨r, rfl, rfl⟩ := xs19_inv h
    obtain ⟨hv1, hr1⟩ := hstc rfl
    dsimp only at kk
    simp only [Nat.sub_self, Nat.add_zero] at kk
    obtain ⟨-, w2, -, -, -, -, -, -, w9⟩ := id hH.2.2.2
    have e9 : ((g.2.1 0).2 : Nat) = L := by rw [w2]
    have kk := kk lsA H locs hL (cons (xok_i ⟨by omega, by omega⟩) hr1) hH hce
    rw [e9] at kk
    show W p l e R s m args below meth c H locs cells slots Q (F0 m pc lsA (xcv q (2, Int.ofNat 0) :: r.map (xcv q)))
    rw [xcv_r]
    exact va_slen hx hb hKn.2.1 (Nat.lt_of_lt_of_le hKn.2.2.2.2.1 hKn.2.2.2.2.2.2.1) (Nat.not_le.mpr hKn.2.2.2.2.1) hH.2.2.1 hdg kk
  case new i =>
    cases hu : xKT[j]? with
    | none =>
      have hz : (match xKT[j]? with
        | some u => decide (u.1 = y.1.cls) && Nat.beq u.2.1 i && decide (o = (20, o.2.1, 0, 0, [])) && decide (some u.2.2 = (vwCl[o.2.1]?).map (fun z => z.1)) && Nat.beq len 3
        | none => false) = true := hchk
      rw [hu] at hz
      cases hz
    | some u =>
    have hz : (match xKT[j]? with
        | some u => decide (u.1 = y.1.cls) && Nat.beq u.2.1 i && decide (o = (20, o.2.1, 0, 0, [])) && decide (some u.2.2 = (vwCl[o.2.1]?).map (fun z => z.1)) && Nat.beq len 3
        | none => false) = true := hchk
    rw [hu] at hz
    simp only [Bool.and_eq_true, decide_eq_true_eq, Nat.beq_eq] at hz
    obtain ⟨⟨⟨⟨hu1, hu2⟩, ho⟩, hcn⟩, rfl⟩ := hz
    generalize o.2.1 = ci at ho hcn
    subst ho
    have hci : ci < 10 := by
      rcases Nat.lt_or_ge ci 10 with w | w
      · exact w
      · rw [List.getElem?_eq_none (show vwCl.length ≤ ci from w)] at hcn
        cases hcn
    obtain ⟨C, T, hcl, hty, hnm, hT⟩ := xcls hci
    rw [hcl] at hcn
    have hcn : some u.2.2 = some C := hcn
    have hlk : Cond.classLink y.1.cls i C ∈ xTs := by
      rw [← hu1, ← hu2, ← Option.some.inj hcn]
      exact xT_class (List.mem_map.mpr ⟨u, List.mem_of_getElem? hu, rfl⟩)
    have h : some (pc + 3, ls, (2, ((g.1.1 + 2 : Nat) : Int)) :: st, xnew g ci (xfsz ci), t) = some z := h
    cases h
    dsimp only [xnew] at kk hcells hslots
    have e1 : g.1.1 + 1 - g.1.1 = 1 := by omega
    have e2 : g.1.2 + xfsz ci - g.1.2 = xfsz ci := by omega
    simp only [e1, e2] at kk hcells hslots
    refine xs_new hx hb hts hown hKn hH hci hcl hlk hT hty hcells hslots hdg (fun H1 z1 hH1 => ?_)
    exact kk lsA H1 locs hL (cons (xok_r _) hst) hH1 (by omega)
  case newarray at_ =>
    cases at_
    case int =>
      have hz : (decide (o = (21, 20, 0, 0, [])) && Nat.beq len 2) = true := hchk
      simp only [Bool.and_eq_true, decide_eq_true_eq, Nat.beq_eq] at hz
      obtain ⟨rfl, rfl⟩ := hz
      have h : xs21 20 (pc + 2) ls st g t = some z := h
      obtain ⟨n, r, rfl, hn, rfl⟩ := xs21_inv h
      obtain ⟨hv1, hr1⟩ := hstc rfl
      dsimp only [xnew] at kk hcells hslots
      have e1 : g.1.1 + 1 - g.1.1 = 1 := by omega
      have e2 : g.1.2 + n - g.1.2 = n := by omega
      simp only [e1, e2] at kk hcells hslots
      refine xs_newa (kd := 20) hx hb hts hKn hH (by simp) hn hcells hslots hdg (fun H1 z1 hH1 => ?_)
      exact kk lsA H1 locs hL (cons (xok_r _) hr1) hH1 (by omega)
    case long =>
      have hz : (decide (o = (21, 21, 0, 0, [])) && Nat.beq len 2) = true := hchk
      simp only [Bool.and_eq_true, decide_eq_true_eq, Nat.beq_eq] at hz
      obtain ⟨rfl, rfl⟩ := hz
      have h : xs21 21 (pc + 2) ls st g t = some z := h
      obtain ⟨n, r, rfl, hn, rfl⟩ := xs21_inv h
      obtain ⟨hv1, hr1⟩ := hstc rfl
      dsimp only [xnew] at kk hcells hslots
      have e1 : g.1.1 + 1 - g.1.1 = 1 := by omega
      have e2 : g.1.2 + n - g.1.2 = n := by omega
      simp only [e1, e2] at kk hcells hslots
      refine xs_newa (kd := 21) hx hb hts hKn hH (by simp) hn hcells hslots hdg (fun H1 z1 hH1 => ?_)
      exact kk lsA H1 locs hL (cons (xok_r _) hr1) hH1 (by omega)
    case byte =>
      have hz : (decide (o = (21, 22, 0, 0, [])) && Nat.beq len 2) = true := hchk
      simp only [Bool.and_eq_true, decide_eq_true_eq, Nat.beq_eq] at hz
      obtain ⟨rfl, rfl⟩ := hz
      have h : xs21 22 (pc + 2) ls st g t = some z := h
      obtain ⟨n, r, rfl, hn, rfl⟩ := xs21_inv h
      obtain ⟨hv1, hr1⟩ := hstc rfl
      dsimp only [xnew] at kk hcells hslots
      have e1 : g.1.1 + 1 - g.1.1 = 1 := by omega
      have e2 : g.1.2 + n - g.1.2 = n := by omega
      simp only [e1, e2] at kk hcells hslots
      refine xs_newa (kd := 22) hx hb hts hKn hH (by simp) hn hcells hslots hdg (fun H1 z1 hH1 => ?_)
      exact kk lsA H1 locs hL (cons (xok_r _) hr1) hH1 (by omega)
    all_goals exact absurd hchk Bool.false_ne_true
  case anewarray i =>
    cases hu : xKT[j]? with
    | none =>
      have hz : (match xKT[j]? with
        | some u => decide (u.1 = y.1.cls) && Nat.beq u.2.1 i && decide (o = (22, o.2.1, 0, 0, [])) && Nat.ble 23 o.2.1 && decide (some u.2.2 = (vwCl[xrowc o.2.1]?).map (fun z => z.1)) && Nat.beq len 3
        | none => false) = true := hchk
      rw [hu] at hz
      cases hz
    | some u =>
    have hz : (match xKT[j]? with
        | some u => decide (u.1 = y.1.cls) && Nat.beq u.2.1 i && decide (o = (22, o.2.1, 0, 0, [])) && Nat.ble 23 o.2.1 && decide (some u.2.2 = (vwCl[xrowc o.2.1]?).map (fun z => z.1)) && Nat.beq len 3
        | none => false) = true := hchk
    rw [hu] at hz
    simp only [Bool.and_eq_true, decide_eq_true_eq, Nat.beq_eq, Nat.ble_eq] at hz
    obtain ⟨⟨⟨⟨⟨hu1, hu2⟩, ho⟩, h23⟩, hcn⟩, rfl⟩ := hz
    generalize o.2.1 = kd at ho h23 hcn
    subst ho
    have hlk : Cond.classLink y.1.cls i u.2.2 ∈ xTs := by
      rw [← hu1, ← hu2]
      exact xT_class (List.mem_map.mpr ⟨u, List.mem_of_getElem? hu, rfl⟩)
    have hkd : (kd = 23 ∧ u.2.2 = RX2) ∨ (kd = 24 ∧ u.2.2 = RX0) ∨ (kd = 25 ∧ u.2.2 = RX6) := by
      rcases (by omega : kd = 23 ∨ kd = 24 ∨ kd = 25 ∨ 26 ≤ kd) with rfl | rfl | rfl | w
      · exact .inl ⟨rfl, Option.some.inj hcn⟩
      · exact .inr (.inl ⟨rfl, Option.some.inj hcn⟩)
      · exact .inr (.inr ⟨rfl, Option.some.inj hcn⟩)
      · have : xrowc kd = 99 := by
          unfold xrowc
          split <;> first | omega | rfl
        rw [this] at hcn
        cases hcn
    have h : xs21 kd (pc + 3) ls st g t = some z := h
    obtain ⟨n, r, rfl, hn, rfl⟩ := xs21_inv h
    obtain ⟨hv1, hr1⟩ := hstc rfl
    dsimp only [xnew] at kk hcells hslots
    have e1 : g.1.1 + 1 - g.1.1 = 1 := by omega
    have e2 : g.1.2 + n - g.1.2 = n := by omega
    simp only [e1, e2] at kk hcells hslots
    refine xs_newq hx hb hts hown hKn hH hlk hkd hn hcells hslots hdg (fun H1 z1 hH1 => ?_)
    exact kk lsA H1 locs hL (cons (xok_r _) hr1) hH1 (by omega)
  case multianewarray i dm =>
    cases hu : xKT[j]? with
    | none =>
      have hz : (match xKT[j]? with
        | some u => decide (u.1 = y.1.cls) && Nat.beq u.2.1 i && Nat.beq dm 2 && decide (o = (23, 0, 0, 0, [])) && decide (u.2.2 = "[[I") && Nat.beq len 4
        | none => false) = true := hchk
      rw [hu] at hz
      cases hz
    | some u =>
    have hz : (match xKT[j]? with
        | some u => decide (u.1 = y.1.cls) && Nat.beq u.2.1 i && Nat.beq dm 2 && decide (o = (23, 0, 0, 0, [])) && decide (u.2.2 = "[[I") && Nat.beq len 4
        | none => false) = true := hchk
    rw [hu] at hz
    simp only [Bool.and_eq_true, decide_eq_true_eq, Nat.beq_eq] at hz
    obtain ⟨⟨⟨⟨⟨hu1, hu2⟩, rfl⟩, rfl⟩, hcn⟩, rfl⟩ := hz
    have hlk : Cond.classLink y.1.cls i "[[I" ∈ xTs := by
      rw [← hu1, ← hu2, ← hcn]
      exact xT_class (List.mem_map.mpr ⟨u, List.mem_of_getElem? hu, rfl⟩)
    have h : xs23 (pc + 4) ls st g t = some z := h
    obtain ⟨k, n, r, rfl, hn, rfl⟩ := xs23_inv h
    obtain ⟨hv1, hr1⟩ := hstc rfl
    have hr2 : ∀ w ∈ r, xokv w := fun w hw => hr1 w (List.mem_cons_of_mem _ hw)
    dsimp only [xnew2] at kk hcells hslots
    have e1 : g.1.1 + 1 + n - g.1.1 = 1 + n := by omega
    have e2 : g.1.2 + n + n * k - g.1.2 = n + n * k := by omega
    simp only [e1, e2, ← Nat.add_assoc] at kk hcells hslots
    refine xs_mna hx hb hts hown hKn hH hlk hn.1 hn.2.1 (by omega) (by omega) hdg (fun H1 z1 hH1 => ?_)
    exact kk lsA H1 locs hL (cons (xok_r _) hr2) hH1 (by omega)
  case getstatic i =>
    have hz : (decide (o = (28, 0, 0, 0, [])) && Nat.beq len 3 && decide (y.1.cls = RX8) && Nat.beq i 310) = true := hchk
    simp only [Bool.and_eq_true, decide_eq_true_eq, Nat.beq_eq] at hz
    obtain ⟨⟨⟨rfl, rfl⟩, hcl⟩, rfl⟩ := hz
    have h : some (pc + 3, ls, (2, ((1 : Nat) : Int)) :: st, g, t) = some z := h
    cases h
    dsimp only at kk
    simp only [Nat.sub_self, Nat.add_zero] at kk
    have kk := kk lsA H locs hL (cons (xok_r _) hst) hH hce
    rw [hcl] at hown
    exact va_gets hx hb hKn.2.2.2.1 hH.2.2.1 hown (hts _ (xT_copy (by decide +kernel))) (fun _ h9 => h9) hdg kk
  case invokestatic i =>
    by_cases h26 : o.1 = 26
    case neg =>
      have hz : (if o.1 = 26 then decide (o = (26, 0, 0, 0, [])) && Nat.beq len 3 && decide ((y.1.cls, i) ∈ xCO) else (match xLT[j]? with
        | some u => decide (u.1 = y.1.cls) && Nat.beq u.2.1 i && Nat.beq u.2.2.2 1 && decide (o = (24, u.2.2.1, o.2.2.1, 1, o.2.2.2.2)) && Nat.beq len 3
        | none => false)) = true := hchk
      rw [if_neg h26] at hz
      cases hu : xLT[j]? with
      | none => rw [hu] at hz; cases hz
      | some u =>
        rw [hu] at hz
        simp only [Bool.and_eq_true, decide_eq_true_eq, Nat.beq_eq] at hz
        have := hz.1.2
        rw [this] at h
        cases h
    have hz : (if o.1 = 26 then decide (o = (26, 0, 0, 0, [])) && Nat.beq len 3 && decide ((y.1.cls, i) ∈ xCO) else (match xLT[j]? with
        | some u => decide (u.1 = y.1.cls) && Nat.beq u.2.1 i && Nat.beq u.2.2.2 1 && decide (o = (24, u.2.2.1, o.2.2.1, 1, o.2.2.2.2)) && Nat.beq len 3
        | none => false)) = true := hchk
    rw [if_pos h26] at hz
    simp only [Bool.and_eq_true, decide_eq_true_eq, Nat.beq_eq] at hz
    obtain ⟨⟨rfl, rfl⟩, hco⟩ := hz
    have h : xs26 d (pc + 3) ls st g t = some z := h
    obtain ⟨n, dp, a, sp, b, r, rfl, ⟨c1, c2, c3, c4, c5, c6, c7, c8, c9, c10, c11, c12, c13⟩, rfl⟩ := xs26_inv h
    have rn : xr32 n := (hst (0, n) (by simp)).1 rfl
    have rd : xr32 dp := (hst (0, dp) (by simp)).1 rfl
    have rs : xr32 sp := (hst (0, sp) (by simp)).1 rfl
    have hr2 : ∀ w ∈ r, xokv w := fun w hw => hst w (by simp [hw])
    dsimp only at kk
    simp only [Nat.sub_self, Nat.add_zero] at kk
    have hlk : Cond.methodLink y.1.cls i arraycopyName ∈ xTs := xT_copy (List.mem_append_left _ (List.mem_map.mpr ⟨_, hco, rfl⟩))
    show W p l e R s m args below meth c H locs cells slots Q (F0 m pc lsA (.int (Int32.ofInt n) :: .int (Int32.ofInt dp) :: xcv q (2, Int.ofNat a) :: .int (Int32.ofInt sp) :: xcv q (2, Int.ofNat b) :: r.map (xcv q)))
    rw [xcv_r, xcv_r]
    refine xs_copy hx hb (by rw [hml, hsz]) hts hown hlk hKn hH hce (by omega) (by omega) c2 c3 c4 c5 c6 c7 rn rd rs c8 c9 c10 c11 c12 c13 hdg (fun H1 locs1 hH1 => ?_)
    refine kk lsA H1 locs1 hL hr2 hH1 ?_
    have e1 := hH1.1
    have e2 := hH.1
    omega
  case invokespecial i =>
    by_cases h27 : o.1 = 27
    case neg =>
      have hz : (if o.1 = 27 then decide (o = (27, 0, 0, 0, [])) && Nat.beq len 3 && decide ((y.1.cls, i) ∈ xOI) else (match xLT[j]? with
        | some u => decide (u.1 = y.1.cls) && Nat.beq u.2.1 i && ((Nat.beq u.2.2.2 2 && decide (o = (24, u.2.2.1, o.2.2.1, 2, o.2.2.2.2))) || (Nat.beq u.2.2.2 3 && decide (o = (24, u.2.2.1, o.2.2.1, 3, o.2.2.2.2)))) && Nat.beq len 3
        | none => false)) = true := hchk
      rw [if_neg h27] at hz
      cases hu : xLT[j]? with
      | none => rw [hu] at hz; cases hz
      | some u =>
        rw [hu] at hz
        simp only [Bool.and_eq_true, Bool.or_eq_true, decide_eq_true_eq, Nat.beq_eq] at hz
        rcases hz.1.2 with w | w
        · have := w.2
          rw [this] at h
          cases h
        · have := w.2
          rw [this] at h
          cases h
    have hz : (if o.1 = 27 then decide (o = (27, 0, 0, 0, [])) && Nat.beq len 3 && decide ((y.1.cls, i) ∈ xOI) else (match xLT[j]? with
        | some u => decide (u.1 = y.1.cls) && Nat.beq u.2.1 i && ((Nat.beq u.2.2.2 2 && decide (o = (24, u.2.2.1, o.2.2.1, 2, o.2.2.2.2))) || (Nat.beq u.2.2.2 3 && decide (o = (24, u.2.2.1, o.2.2.1, 3, o.2.2.2.2)))) && Nat.beq len 3
        | none => false)) = true := hchk
    rw [if_pos h27] at hz
    simp only [Bool.and_eq_true, decide_eq_true_eq, Nat.beq_eq] at hz
    obtain ⟨⟨rfl, rfl⟩, hco⟩ := hz
    have h : xs27 d (pc + 3) ls st g t = some z := h
    obtain ⟨a, r, rfl, ⟨c1, c2⟩, rfl⟩ := xs27_inv h
    obtain ⟨hv1, hr1⟩ := hstc rfl
    dsimp only at kk
    simp only [Nat.sub_self, Nat.add_zero] at kk
    have hlk : Cond.methodLink y.1.cls i objectInit ∈ xTs := xT_obj (List.mem_append_left _ (List.mem_map.mpr ⟨_, hco, rfl⟩))
    show W p l e R s m args below meth c H locs cells slots Q (F0 m pc lsA (xcv q (2, Int.ofNat a) :: r.map (xcv q)))
    rw [xcv_r]
    refine W.objInit hx hb hown (hts _ hlk) (hts _ (xT_obj (List.mem_append_right _ List.mem_cons_self))) (hts _ (xT_obj (List.mem_append_right _ (List.mem_cons_of_mem _ List.mem_cons_self)))) rfl (by rw [hml]; exact hsz) rfl hdg (by omega) (by rw [xcats_map]; show 2 * 0 + _ + 12 ≤ _; omega) ?_
    exact kk lsA H locs hL hr1 hH hce
  case invokevirtual i =>
    have hz : (match xLT[j]? with
        | some u => decide (u.1 = y.1.cls) && Nat.beq u.2.1 i && Nat.beq u.2.2.2 0 && decide (o = (24, u.2.2.1, o.2.2.1, 0, o.2.2.2.2)) && decide (((vwCl[o.2.2.2.2.headD 99]?).map (fun z => z.1)) = some (xowny u.2.2.1)) && Nat.beq len 3
        | none => false) = true := hchk
    cases hu : xLT[j]? with
    | none => rw [hu] at hz; cases hz
    | some u =>
      rw [hu] at hz
      simp only [Bool.and_eq_true, decide_eq_true_eq, Nat.beq_eq] at hz
      have := hz.1.1.2
      rw [this] at h
      cases h
  case return_ =>
    have hz : (decide (o = (25, 0, 0, 0, [])) && Nat.beq len 1) = true := hchk
    simp only [Bool.and_eq_true, decide_eq_true_eq, Nat.beq_eq] at hz
    obtain ⟨rfl, rfl⟩ := hz
    cases h
  case ireturn =>
    have hz : (decide (o = (25, 1, 0, 0, [])) && Nat.beq len 1) = true := hchk
    simp only [Bool.and_eq_true, decide_eq_true_eq, Nat.beq_eq] at hz
    obtain ⟨rfl, rfl⟩ := hz
    cases h
  case lreturn =>
    have hz : (decide (o = (25, 2, 0, 0, [])) && Nat.beq len 1) = true := hchk
    simp only [Bool.and_eq_true, decide_eq_true_eq, Nat.beq_eq] at hz
    obtain ⟨rfl, rfl⟩ := hz
    cases h
  all_goals exact absurd hchk Bool.false_ne_true
end XSIMS
