/-! THE LAW: ITS LOOP -/
theorem int_some {x : Int} {tg : Nat} : ∃ A : Int, (some (tg, x) : Option xV) = some (tg, A) := ⟨_, rfl⟩
theorem y_feed_some {m : xD} {x : Int} : ∃ A : Int, (y_feed m x).1 = some (0, A) := by
  unfold y_feed
  (repeat' split) <;> exact ⟨_, rfl⟩
theorem y_expire_some {m : xD} {x : Int} : ∃ A : Int, (y_expire m x).1 = some (0, A) := ⟨_, rfl⟩
theorem y_deal_some {m : xD} {x : Int} : ∃ A : Int, (y_deal m x).1 = some (0, A) := by
  unfold y_deal
  (repeat' split) <;> exact ⟨_, rfl⟩
theorem y_put_some {m : xD} {x y z w : Int} : ∃ A : Int, (y_put m x y z w).1 = some (0, A) := by
  unfold y_put
  (repeat' split) <;> exact ⟨_, rfl⟩
theorem y_prepare_some {m : xD} {x : Int} : ∃ A : Int, (y_prepare m x).1 = some (0, A) := by
  unfold y_prepare
  (repeat' split) <;> exact ⟨_, rfl⟩
theorem y_commit_some {m : xD} {x : Int} : ∃ A : Int, (y_commit m x).1 = some (0, A) := by
  unfold y_commit
  (repeat' split) <;> exact ⟨_, rfl⟩
theorem y_abandon_some {m : xD} {x : Int} : ∃ A : Int, (y_abandon m x).1 = some (0, A) := by
  unfold y_abandon
  (repeat' split) <;> exact ⟨_, rfl⟩
theorem y_repack_some {m : xD} : ∃ A : Int, (y_repack m).1 = some (0, A) := by
  unfold y_repack
  (repeat' split) <;> exact ⟨_, rfl⟩
theorem y_step_some {m : xD} {x y : Int} : ∃ A : Int, (y_step m x y).1 = some (0, A) := by
  unfold y_step
  (repeat' split) <;> exact ⟨_, rfl⟩
theorem y_crash_some {m : xD} : ∃ A : Int, (y_crash m).1 = some (0, A) := ⟨_, rfl⟩
theorem y_after_some {m : xD} {x y z : Int} : ∃ A : Int, (y_after m x y z).1 = some (0, A) := by
  unfold y_after
  (repeat' split) <;> exact ⟨_, rfl⟩
theorem y_see_some {m : xD} {x y : Int} : ∃ A : Int, (y_see m x y).1 = some (0, A) := by
  unfold y_see
  (repeat' split) <;> exact ⟨_, rfl⟩
theorem y_plan_some {m : xD} {x y : Int} : ∃ A : Int, (y_plan m x y).1 = some (0, A) := by
  unfold y_plan
  (repeat' split) <;> exact ⟨_, rfl⟩
theorem y_ends_some {m : xD} {x : Int} : ∃ A : Int, (y_ends m x).1 = some (0, A) := by
  unfold y_ends
  (repeat' split) <;> exact ⟨_, rfl⟩
theorem y_book_some {m : xD} {x y : Int} : ∃ A : Int, (y_book m x y).1 = some (0, A) := by
  unfold y_book
  (repeat' split) <;> exact ⟨_, rfl⟩
theorem y_undo_some {m : xD} : ∃ A : Int, (y_undo m).1 = some (0, A) := by
  unfold y_undo
  (repeat' split) <;> exact ⟨_, rfl⟩
theorem y_tape_some {m : xD} {x y z : Int} : ∃ A : Int, (y_tape m x y z).1 = some (0, A) := by
  unfold y_tape
  (repeat' split) <;> exact ⟨_, rfl⟩
theorem y_item_some {m : xD} {x y z : Int} : ∃ A : Int, (y_item m x y z).1 = some (0, A) := by
  unfold y_item
  (repeat' split) <;> exact ⟨_, rfl⟩
theorem y_shift_some {m : xD} {x i z j n : Int} : ∃ A : Int, (y_shift m x i z j n).1 = some (0, A) := by
  unfold y_shift
  (repeat' split) <;> exact ⟨_, rfl⟩
theorem LR.a0 {Z : Nat → Int} {n : Nat} {t m : xD} (h : LR Z n t m) : ∀ j, j < n → t 0 j = Z j := h.2.2.2.2.2.2.2.2.2.2.1
theorem xk_alenL {N0 mi pc len j : Nat} {i : Instr} {ls st : List xV} {g : xG} {t : xD} {Q : Option xV → xG → xD → Prop} (hA : g.2.1 0 = (20, N0)) (hc : xcode mi pc = some ((i, len, j), (19, 0, 0, 0, []))) {p : Nat} (hp : pc + len = p) (h : xOk 30 mi p ls ((0, ((N0 : Nat) : Int)) :: st) g t Q) : xOk 30 mi pc ls ((2, ((0 : Nat) : Int)) :: st) g t Q := xk_alen hc hp (by
  rw [hA]
  exact h)
theorem law_loop {g : xG} {N0 : Nat} {Z : Nat → Int} (L : xLay g) (hN : N0 ≤ 3072) (hA0 : g.2.1 0 = (20, N0)) (hZ : ∀ j, xr32 (Z j)) (hg : g.1.1 ≤ 600000 ∧ g.1.2 ≤ 7302250) {t m : xD} (h : LR Z N0 t m) : xOk 30 202 18 [(2, ((0 : Nat) : Int)), (2, ((2 : Nat) : Int)), (2, ((292 : Nat) : Int)), (0, 0)] [] g t (fun r g1 _ => r = some (0, 1) ∧ g1.1.1 ≤ 600000 ∧ g1.1.2 ≤ 7302250) := by
  have lp1 : ∀ k : Nat, k ≤ N0 → ∀ (v : Nat) (m : xD) (u1 : xD), (LR Z N0 u1 m) → (v = 6 * k) → xOk 30 202 18 [(2, ((0 : Nat) : Int)), (2, ((2 : Nat) : Int)), (2, ((292 : Nat) : Int)), (0, ((v : Nat) : Int))] [] g u1 (fun r g1 _ => r = some (0, 1) ∧ g1.1.1 ≤ 600000 ∧ g1.1.2 ≤ 7302250) := by
    refine xk_up N0 (fun k hkk ih1 v m u1 h1_1 h1_2 => ?_)
    refine xk_load rfl (p := 19) rfl rfl ?_
    refine xk_load rfl (p := 20) rfl rfl ?_
    refine xk_alenL hA0 rfl (p := 21) rfl ?_
    refine xk_push rfl (p := 23) rfl ?_
    refine xk_bin rfl (p := 24) rfl (z := (((N0 : Nat) : Int) - 6)) (congrArg some (xsub_r (by omega) (by omega))) ?_
    refine xk_icmp rfl (p := 27) rfl (fun c24_2 => ?_) (fun c24_2 => ?_)
    · replace c24_2 : (((N0 : Nat) : Int) - 6) < ((v : Nat) : Int) := c24_2
      refine xk_push rfl (p := 1384) rfl ?_
      refine xk_ret rfl (rfl) ?_
      exact ⟨rfl, hg⟩
    · replace c24_2 : ¬ ((((N0 : Nat) : Int) - 6) < ((v : Nat) : Int)) := c24_2
      refine xk_load rfl (p := 28) rfl rfl ?_
      refine xk_load rfl (p := 29) rfl rfl ?_
      refine xk_ald rfl (p := 30) rfl (v := (0, Z v)) ((xal0 hA0 (show v < N0 by omega)).trans (congrArg (fun z => some (0, z)) (h1_1.a0 v (by omega)))) ?_
      refine xk_push rfl (p := 32) rfl ?_
      refine xk_bin rfl (p := 33) rfl (z := xand (Z v) 63) (rfl) ?_
      by_cases c33_3 : xand (Z v) 63 = 0
      · refine xk_switch rfl (w := 200) (by rw [c33_3]; rfl) ?_
        refine xk_load rfl (p := 201) rfl rfl ?_
        refine xk_load rfl (p := 202) rfl rfl ?_
        refine xk_load rfl (p := 203) rfl rfl ?_
        refine xk_push rfl (p := 204) rfl ?_
        refine xk_bin rfl (p := 205) rfl (z := ((v + 1 : Nat) : Int)) (congrArg some (xadd_n (n := v) (m := 1) (by omega))) ?_
        refine xk_ald rfl (p := 206) rfl (v := (0, Z (v + 1))) ((xal0 hA0 (show v + 1 < N0 by omega)).trans (congrArg (fun z => some (0, z)) (h1_1.a0 (v + 1) (by omega)))) ?_
        have pc_ := o_feed (x := Z (v + 1)) L h1_1 (hZ _)
        obtain ⟨A_, hA_⟩ := y_feed_some (m := m) (x := Z (v + 1))
        rw [hA_] at pc_
        refine xk_call rfl (p := 209) rfl (by decide) rfl (Nat.le_of_ble_eq_true rfl) (Nat.le_of_ble_eq_true rfl) (xrv (ly_x L) (by decide)) (as := [(2, ((2 : Nat) : Int)), (0, Z (v + 1))]) (r := []) rfl (pc_) ?_
        rintro _ g v1 ⟨rfl, rfl, hB0, hB⟩
        refine xk_load rfl (p := 210) rfl rfl ?_
        refine xk_load rfl (p := 211) rfl rfl ?_
        refine xk_load rfl (p := 212) rfl rfl ?_
        refine xk_push rfl (p := 213) rfl ?_
        refine xk_bin rfl (p := 214) rfl (z := ((v + 1 : Nat) : Int)) (congrArg some (xadd_n (n := v) (m := 1) (by omega))) ?_
        refine xk_ald rfl (p := 215) rfl (v := (0, Z (v + 1))) ((xal0 hA0 (show v + 1 < N0 by omega)).trans (congrArg (fun z => some (0, z)) (hB0 (v + 1) (by omega)))) ?_
        refine xk_call rfl (p := 218) rfl (by decide) rfl (Nat.le_of_ble_eq_true rfl) (Nat.le_of_ble_eq_true rfl) (xrv (ly_m L) (by decide)) (as := [(2, ((292 : Nat) : Int)), (0, Z (v + 1))]) (r := [(0, A_)]) rfl (hB) ?_
        rintro _ g v2 ⟨rfl, rfl, w_, hW⟩
        refine xk_icmp rfl (p := 221) rfl (fun c218_4 => ?_) (fun c218_4 => ?_)
        · replace c218_4 : A_ = A_ := c218_4
          refine xk_iinc rfl (p := 1380) rfl (x := ((v : Nat) : Int)) rfl (ls' := [(2, ((0 : Nat) : Int)), (2, ((2 : Nat) : Int)), (2, ((292 : Nat) : Int)), (0, ((v + 6 : Nat) : Int))]) (by rw [show xadd ((v : Nat) : Int) 6 = ((v + 6 : Nat) : Int) from (xadd_r (by omega) (by omega)).trans (by omega)]; rfl) ?_
          refine xk_goto rfl ?_
          exact ih1 (by omega) (v + 6) w_ v2 (by exact hW) (by omega)
        · replace c218_4 : ¬ (A_ = A_) := c218_4
          exact absurd c218_4 (by exact fun h => h rfl)
      by_cases c33_5 : xand (Z v) 63 = 1
      · refine xk_switch rfl (w := 223) (by rw [c33_5]; rfl) ?_
        refine xk_load rfl (p := 224) rfl rfl ?_
        have pc_ := o_name L h1_1
        obtain ⟨A_, hA_⟩ := y_name_int (m := m)
        rw [hA_] at pc_
        refine xk_call rfl (p := 227) rfl (by decide) rfl (Nat.le_of_ble_eq_true rfl) (Nat.le_of_ble_eq_true rfl) (xrv (ly_x L) (by decide)) (as := [(2, ((2 : Nat) : Int))]) (r := []) rfl (pc_) ?_
        rintro _ g v1 ⟨rfl, rfl, hB0, hB⟩
        refine xk_load rfl (p := 228) rfl rfl ?_
        refine xk_call rfl (p := 231) rfl (by decide) rfl (Nat.le_of_ble_eq_true rfl) (Nat.le_of_ble_eq_true rfl) (xrv (ly_m L) (by decide)) (as := [(2, ((292 : Nat) : Int))]) (r := [(0, A_)]) rfl (hB) ?_
        rintro _ g v2 ⟨rfl, rfl, w_, hW⟩
        refine xk_icmp rfl (p := 234) rfl (fun c231_6 => ?_) (fun c231_6 => ?_)
        · replace c231_6 : A_ = A_ := c231_6
          refine xk_iinc rfl (p := 1380) rfl (x := ((v : Nat) : Int)) rfl (ls' := [(2, ((0 : Nat) : Int)), (2, ((2 : Nat) : Int)), (2, ((292 : Nat) : Int)), (0, ((v + 6 : Nat) : Int))]) (by rw [show xadd ((v : Nat) : Int) 6 = ((v + 6 : Nat) : Int) from (xadd_r (by omega) (by omega)).trans (by omega)]; rfl) ?_
          refine xk_goto rfl ?_
          exact ih1 (by omega) (v + 6) w_ v2 (by exact hW) (by omega)
        · replace c231_6 : ¬ (A_ = A_) := c231_6
          exact absurd c231_6 (by exact fun h => h rfl)
      by_cases c33_7 : xand (Z v) 63 = 2
      · refine xk_switch rfl (w := 236) (by rw [c33_7]; rfl) ?_
        refine xk_load rfl (p := 237) rfl rfl ?_
        refine xk_load rfl (p := 238) rfl rfl ?_
        refine xk_load rfl (p := 239) rfl rfl ?_
        refine xk_push rfl (p := 240) rfl ?_
        refine xk_bin rfl (p := 241) rfl (z := ((v + 1 : Nat) : Int)) (congrArg some (xadd_n (n := v) (m := 1) (by omega))) ?_
        refine xk_ald rfl (p := 242) rfl (v := (0, Z (v + 1))) ((xal0 hA0 (show v + 1 < N0 by omega)).trans (congrArg (fun z => some (0, z)) (h1_1.a0 (v + 1) (by omega)))) ?_
        refine xk_load rfl (p := 243) rfl rfl ?_
        refine xk_load rfl (p := 244) rfl rfl ?_
        refine xk_push rfl (p := 245) rfl ?_
        refine xk_bin rfl (p := 246) rfl (z := ((v + 2 : Nat) : Int)) (congrArg some (xadd_n (n := v) (m := 2) (by omega))) ?_
        refine xk_ald rfl (p := 247) rfl (v := (0, Z (v + 2))) ((xal0 hA0 (show v + 2 < N0 by omega)).trans (congrArg (fun z => some (0, z)) (h1_1.a0 (v + 2) (by omega)))) ?_
        have pc_ := o_of (x := Z (v + 1)) (y := Z (v + 2)) L h1_1 (hZ _) (hZ _)
        generalize y_of m (Z (v + 1)) (Z (v + 2)) = A_ at pc_
        refine xk_call rfl (p := 250) rfl (by decide) rfl (Nat.le_of_ble_eq_true rfl) (Nat.le_of_ble_eq_true rfl) (xrv (ly_x L) (by decide)) (as := [(2, ((2 : Nat) : Int)), (0, Z (v + 1)), (0, Z (v + 2))]) (r := []) rfl (pc_) ?_
        rintro _ g v1 ⟨rfl, rfl, hB0, hB⟩
        refine xk_load rfl (p := 251) rfl rfl ?_
        refine xk_load rfl (p := 252) rfl rfl ?_
        refine xk_load rfl (p := 253) rfl rfl ?_
        refine xk_push rfl (p := 254) rfl ?_
        refine xk_bin rfl (p := 255) rfl (z := ((v + 1 : Nat) : Int)) (congrArg some (xadd_n (n := v) (m := 1) (by omega))) ?_
        refine xk_ald rfl (p := 256) rfl (v := (0, Z (v + 1))) ((xal0 hA0 (show v + 1 < N0 by omega)).trans (congrArg (fun z => some (0, z)) (hB0 (v + 1) (by omega)))) ?_
        refine xk_load rfl (p := 257) rfl rfl ?_
        refine xk_load rfl (p := 258) rfl rfl ?_
        refine xk_push rfl (p := 259) rfl ?_
        refine xk_bin rfl (p := 260) rfl (z := ((v + 2 : Nat) : Int)) (congrArg some (xadd_n (n := v) (m := 2) (by omega))) ?_
        refine xk_ald rfl (p := 261) rfl (v := (0, Z (v + 2))) ((xal0 hA0 (show v + 2 < N0 by omega)).trans (congrArg (fun z => some (0, z)) (hB0 (v + 2) (by omega)))) ?_
        refine xk_call rfl (p := 264) rfl (by decide) rfl (Nat.le_of_ble_eq_true rfl) (Nat.le_of_ble_eq_true rfl) (xrv (ly_m L) (by decide)) (as := [(2, ((292 : Nat) : Int)), (0, Z (v + 1)), (0, Z (v + 2))]) (r := [(0, A_)]) rfl (hB) ?_
        rintro _ g v2 ⟨rfl, rfl, w_, hW⟩
        refine xk_icmp rfl (p := 267) rfl (fun c264_8 => ?_) (fun c264_8 => ?_)
        · replace c264_8 : A_ = A_ := c264_8
          refine xk_iinc rfl (p := 1380) rfl (x := ((v : Nat) : Int)) rfl (ls' := [(2, ((0 : Nat) : Int)), (2, ((2 : Nat) : Int)), (2, ((292 : Nat) : Int)), (0, ((v + 6 : Nat) : Int))]) (by rw [show xadd ((v : Nat) : Int) 6 = ((v + 6 : Nat) : Int) from (xadd_r (by omega) (by omega)).trans (by omega)]; rfl) ?_
          refine xk_goto rfl ?_
          exact ih1 (by omega) (v + 6) w_ v2 (by exact hW) (by omega)
        · replace c264_8 : ¬ (A_ = A_) := c264_8
          exact absurd c264_8 (by exact fun h => h rfl)
      by_cases c33_9 : xand (Z v) 63 = 3
      · refine xk_switch rfl (w := 269) (by rw [c33_9]; rfl) ?_
        refine xk_load rfl (p := 270) rfl rfl ?_
        refine xk_load rfl (p := 271) rfl rfl ?_
        refine xk_load rfl (p := 272) rfl rfl ?_
        refine xk_push rfl (p := 273) rfl ?_
        refine xk_bin rfl (p := 274) rfl (z := ((v + 1 : Nat) : Int)) (congrArg some (xadd_n (n := v) (m := 1) (by omega))) ?_
        refine xk_ald rfl (p := 275) rfl (v := (0, Z (v + 1))) ((xal0 hA0 (show v + 1 < N0 by omega)).trans (congrArg (fun z => some (0, z)) (h1_1.a0 (v + 1) (by omega)))) ?_
        refine xk_load rfl (p := 276) rfl rfl ?_
        refine xk_load rfl (p := 277) rfl rfl ?_
        refine xk_push rfl (p := 278) rfl ?_
        refine xk_bin rfl (p := 279) rfl (z := ((v + 2 : Nat) : Int)) (congrArg some (xadd_n (n := v) (m := 2) (by omega))) ?_
        refine xk_ald rfl (p := 280) rfl (v := (0, Z (v + 2))) ((xal0 hA0 (show v + 2 < N0 by omega)).trans (congrArg (fun z => some (0, z)) (h1_1.a0 (v + 2) (by omega)))) ?_
        have pc_ := o_folder (x := Z (v + 1)) (y := Z (v + 2)) L h1_1 (hZ _) (hZ _)
        generalize y_folder m (Z (v + 1)) (Z (v + 2)) = A_ at pc_
        refine xk_call rfl (p := 283) rfl (by decide) rfl (Nat.le_of_ble_eq_true rfl) (Nat.le_of_ble_eq_true rfl) (xrv (ly_x L) (by decide)) (as := [(2, ((2 : Nat) : Int)), (0, Z (v + 1)), (0, Z (v + 2))]) (r := []) rfl (pc_) ?_
        rintro _ g v1 ⟨rfl, rfl, hB0, hB⟩
        refine xk_load rfl (p := 284) rfl rfl ?_
        refine xk_load rfl (p := 285) rfl rfl ?_
        refine xk_load rfl (p := 286) rfl rfl ?_
        refine xk_push rfl (p := 287) rfl ?_
        refine xk_bin rfl (p := 288) rfl (z := ((v + 1 : Nat) : Int)) (congrArg some (xadd_n (n := v) (m := 1) (by omega))) ?_
        refine xk_ald rfl (p := 289) rfl (v := (0, Z (v + 1))) ((xal0 hA0 (show v + 1 < N0 by omega)).trans (congrArg (fun z => some (0, z)) (hB0 (v + 1) (by omega)))) ?_
        refine xk_load rfl (p := 290) rfl rfl ?_
        refine xk_load rfl (p := 291) rfl rfl ?_
        refine xk_push rfl (p := 292) rfl ?_
        refine xk_bin rfl (p := 293) rfl (z := ((v + 2 : Nat) : Int)) (congrArg some (xadd_n (n := v) (m := 2) (by omega))) ?_
        refine xk_ald rfl (p := 294) rfl (v := (0, Z (v + 2))) ((xal0 hA0 (show v + 2 < N0 by omega)).trans (congrArg (fun z => some (0, z)) (hB0 (v + 2) (by omega)))) ?_
        refine xk_call rfl (p := 297) rfl (by decide) rfl (Nat.le_of_ble_eq_true rfl) (Nat.le_of_ble_eq_true rfl) (xrv (ly_m L) (by decide)) (as := [(2, ((292 : Nat) : Int)), (0, Z (v + 1)), (0, Z (v + 2))]) (r := [(0, A_)]) rfl (hB) ?_
        rintro _ g v2 ⟨rfl, rfl, w_, hW⟩
        refine xk_icmp rfl (p := 300) rfl (fun c297_10 => ?_) (fun c297_10 => ?_)
        · replace c297_10 : A_ = A_ := c297_10
          refine xk_iinc rfl (p := 1380) rfl (x := ((v : Nat) : Int)) rfl (ls' := [(2, ((0 : Nat) : Int)), (2, ((2 : Nat) : Int)), (2, ((292 : Nat) : Int)), (0, ((v + 6 : Nat) : Int))]) (by rw [show xadd ((v : Nat) : Int) 6 = ((v + 6 : Nat) : Int) from (xadd_r (by omega) (by omega)).trans (by omega)]; rfl) ?_
          refine xk_goto rfl ?_
          exact ih1 (by omega) (v + 6) w_ v2 (by exact hW) (by omega)
        · replace c297_10 : ¬ (A_ = A_) := c297_10
          exact absurd c297_10 (by exact fun h => h rfl)
      by_cases c33_11 : xand (Z v) 63 = 4
      · refine xk_switch rfl (w := 302) (by rw [c33_11]; rfl) ?_
        refine xk_load rfl (p := 303) rfl rfl ?_
        refine xk_load rfl (p := 304) rfl rfl ?_
        refine xk_load rfl (p := 305) rfl rfl ?_
        refine xk_push rfl (p := 306) rfl ?_
        refine xk_bin rfl (p := 307) rfl (z := ((v + 1 : Nat) : Int)) (congrArg some (xadd_n (n := v) (m := 1) (by omega))) ?_
        refine xk_ald rfl (p := 308) rfl (v := (0, Z (v + 1))) ((xal0 hA0 (show v + 1 < N0 by omega)).trans (congrArg (fun z => some (0, z)) (h1_1.a0 (v + 1) (by omega)))) ?_
        refine xk_load rfl (p := 309) rfl rfl ?_
        refine xk_load rfl (p := 310) rfl rfl ?_
        refine xk_push rfl (p := 311) rfl ?_
        refine xk_bin rfl (p := 312) rfl (z := ((v + 2 : Nat) : Int)) (congrArg some (xadd_n (n := v) (m := 2) (by omega))) ?_
        refine xk_ald rfl (p := 313) rfl (v := (0, Z (v + 2))) ((xal0 hA0 (show v + 2 < N0 by omega)).trans (congrArg (fun z => some (0, z)) (h1_1.a0 (v + 2) (by omega)))) ?_
        have pc_ := o_list (x := Z (v + 1)) (y := Z (v + 2)) L h1_1 (hZ _) (hZ _)
        generalize y_list m (Z (v + 1)) (Z (v + 2)) = A_ at pc_
        refine xk_call rfl (p := 316) rfl (by decide) rfl (Nat.le_of_ble_eq_true rfl) (Nat.le_of_ble_eq_true rfl) (xrv (ly_x L) (by decide)) (as := [(2, ((2 : Nat) : Int)), (0, Z (v + 1)), (0, Z (v + 2))]) (r := []) rfl (pc_) ?_
        rintro _ g v1 ⟨rfl, rfl, hB0, hB⟩
        refine xk_load rfl (p := 317) rfl rfl ?_
        refine xk_load rfl (p := 318) rfl rfl ?_
        refine xk_load rfl (p := 319) rfl rfl ?_
        refine xk_push rfl (p := 320) rfl ?_
        refine xk_bin rfl (p := 321) rfl (z := ((v + 1 : Nat) : Int)) (congrArg some (xadd_n (n := v) (m := 1) (by omega))) ?_
        refine xk_ald rfl (p := 322) rfl (v := (0, Z (v + 1))) ((xal0 hA0 (show v + 1 < N0 by omega)).trans (congrArg (fun z => some (0, z)) (hB0 (v + 1) (by omega)))) ?_
        refine xk_load rfl (p := 323) rfl rfl ?_
        refine xk_load rfl (p := 324) rfl rfl ?_
        refine xk_push rfl (p := 325) rfl ?_
        refine xk_bin rfl (p := 326) rfl (z := ((v + 2 : Nat) : Int)) (congrArg some (xadd_n (n := v) (m := 2) (by omega))) ?_
        refine xk_ald rfl (p := 327) rfl (v := (0, Z (v + 2))) ((xal0 hA0 (show v + 2 < N0 by omega)).trans (congrArg (fun z => some (0, z)) (hB0 (v + 2) (by omega)))) ?_
        refine xk_call rfl (p := 330) rfl (by decide) rfl (Nat.le_of_ble_eq_true rfl) (Nat.le_of_ble_eq_true rfl) (xrv (ly_m L) (by decide)) (as := [(2, ((292 : Nat) : Int)), (0, Z (v + 1)), (0, Z (v + 2))]) (r := [(0, A_)]) rfl (hB) ?_
        rintro _ g v2 ⟨rfl, rfl, w_, hW⟩
        refine xk_icmp rfl (p := 333) rfl (fun c330_12 => ?_) (fun c330_12 => ?_)
        · replace c330_12 : A_ = A_ := c330_12
          refine xk_iinc rfl (p := 1380) rfl (x := ((v : Nat) : Int)) rfl (ls' := [(2, ((0 : Nat) : Int)), (2, ((2 : Nat) : Int)), (2, ((292 : Nat) : Int)), (0, ((v + 6 : Nat) : Int))]) (by rw [show xadd ((v : Nat) : Int) 6 = ((v + 6 : Nat) : Int) from (xadd_r (by omega) (by omega)).trans (by omega)]; rfl) ?_
          refine xk_goto rfl ?_
          exact ih1 (by omega) (v + 6) w_ v2 (by exact hW) (by omega)
        · replace c330_12 : ¬ (A_ = A_) := c330_12
          exact absurd c330_12 (by exact fun h => h rfl)
      by_cases c33_13 : xand (Z v) 63 = 5
      · refine xk_switch rfl (w := 335) (by rw [c33_13]; rfl) ?_
        refine xk_load rfl (p := 336) rfl rfl ?_
        refine xk_load rfl (p := 337) rfl rfl ?_
        refine xk_load rfl (p := 338) rfl rfl ?_
        refine xk_push rfl (p := 339) rfl ?_
        refine xk_bin rfl (p := 340) rfl (z := ((v + 1 : Nat) : Int)) (congrArg some (xadd_n (n := v) (m := 1) (by omega))) ?_
        refine xk_ald rfl (p := 341) rfl (v := (0, Z (v + 1))) ((xal0 hA0 (show v + 1 < N0 by omega)).trans (congrArg (fun z => some (0, z)) (h1_1.a0 (v + 1) (by omega)))) ?_
        refine xk_load rfl (p := 342) rfl rfl ?_
        refine xk_load rfl (p := 343) rfl rfl ?_
        refine xk_push rfl (p := 344) rfl ?_
        refine xk_bin rfl (p := 345) rfl (z := ((v + 2 : Nat) : Int)) (congrArg some (xadd_n (n := v) (m := 2) (by omega))) ?_
        refine xk_ald rfl (p := 346) rfl (v := (0, Z (v + 2))) ((xal0 hA0 (show v + 2 < N0 by omega)).trans (congrArg (fun z => some (0, z)) (h1_1.a0 (v + 2) (by omega)))) ?_
        refine xk_load rfl (p := 347) rfl rfl ?_
        refine xk_load rfl (p := 348) rfl rfl ?_
        refine xk_push rfl (p := 349) rfl ?_
        refine xk_bin rfl (p := 350) rfl (z := ((v + 3 : Nat) : Int)) (congrArg some (xadd_n (n := v) (m := 3) (by omega))) ?_
        refine xk_ald rfl (p := 351) rfl (v := (0, Z (v + 3))) ((xal0 hA0 (show v + 3 < N0 by omega)).trans (congrArg (fun z => some (0, z)) (h1_1.a0 (v + 3) (by omega)))) ?_
        have pc_ := o_journal (x := Z (v + 1)) (y := Z (v + 2)) (z := Z (v + 3)) L h1_1 (hZ _) (hZ _) (hZ _)
        generalize y_journal m (Z (v + 1)) (Z (v + 2)) (Z (v + 3)) = A_ at pc_
        refine xk_call rfl (p := 354) rfl (by decide) rfl (Nat.le_of_ble_eq_true rfl) (Nat.le_of_ble_eq_true rfl) (xrv (ly_x L) (by decide)) (as := [(2, ((2 : Nat) : Int)), (0, Z (v + 1)), (0, Z (v + 2)), (0, Z (v + 3))]) (r := []) rfl (pc_) ?_
        rintro _ g v1 ⟨rfl, rfl, hB0, hB⟩
        refine xk_load rfl (p := 355) rfl rfl ?_
        refine xk_load rfl (p := 356) rfl rfl ?_
        refine xk_load rfl (p := 357) rfl rfl ?_
        refine xk_push rfl (p := 358) rfl ?_
        refine xk_bin rfl (p := 359) rfl (z := ((v + 1 : Nat) : Int)) (congrArg some (xadd_n (n := v) (m := 1) (by omega))) ?_
        refine xk_ald rfl (p := 360) rfl (v := (0, Z (v + 1))) ((xal0 hA0 (show v + 1 < N0 by omega)).trans (congrArg (fun z => some (0, z)) (hB0 (v + 1) (by omega)))) ?_
        refine xk_load rfl (p := 361) rfl rfl ?_
        refine xk_load rfl (p := 362) rfl rfl ?_
        refine xk_push rfl (p := 363) rfl ?_
        refine xk_bin rfl (p := 364) rfl (z := ((v + 2 : Nat) : Int)) (congrArg some (xadd_n (n := v) (m := 2) (by omega))) ?_
        refine xk_ald rfl (p := 365) rfl (v := (0, Z (v + 2))) ((xal0 hA0 (show v + 2 < N0 by omega)).trans (congrArg (fun z => some (0, z)) (hB0 (v + 2) (by omega)))) ?_
        refine xk_load rfl (p := 366) rfl rfl ?_
        refine xk_load rfl (p := 367) rfl rfl ?_
        refine xk_push rfl (p := 368) rfl ?_
        refine xk_bin rfl (p := 369) rfl (z := ((v + 3 : Nat) : Int)) (congrArg some (xadd_n (n := v) (m := 3) (by omega))) ?_
        refine xk_ald rfl (p := 370) rfl (v := (0, Z (v + 3))) ((xal0 hA0 (show v + 3 < N0 by omega)).trans (congrArg (fun z => some (0, z)) (hB0 (v + 3) (by omega)))) ?_
        refine xk_call rfl (p := 373) rfl (by decide) rfl (Nat.le_of_ble_eq_true rfl) (Nat.le_of_ble_eq_true rfl) (xrv (ly_m L) (by decide)) (as := [(2, ((292 : Nat) : Int)), (0, Z (v + 1)), (0, Z (v + 2)), (0, Z (v + 3))]) (r := [(0, A_)]) rfl (hB) ?_
        rintro _ g v2 ⟨rfl, rfl, w_, hW⟩
        refine xk_icmp rfl (p := 376) rfl (fun c373_14 => ?_) (fun c373_14 => ?_)
        · replace c373_14 : A_ = A_ := c373_14
          refine xk_iinc rfl (p := 1380) rfl (x := ((v : Nat) : Int)) rfl (ls' := [(2, ((0 : Nat) : Int)), (2, ((2 : Nat) : Int)), (2, ((292 : Nat) : Int)), (0, ((v + 6 : Nat) : Int))]) (by rw [show xadd ((v : Nat) : Int) 6 = ((v + 6 : Nat) : Int) from (xadd_r (by omega) (by omega)).trans (by omega)]; rfl) ?_
          refine xk_goto rfl ?_
          exact ih1 (by omega) (v + 6) w_ v2 (by exact hW) (by omega)
        · replace c373_14 : ¬ (A_ = A_) := c373_14
          exact absurd c373_14 (by exact fun h => h rfl)
      by_cases c33_15 : xand (Z v) 63 = 6
      · refine xk_switch rfl (w := 378) (by rw [c33_15]; rfl) ?_
        refine xk_load rfl (p := 379) rfl rfl ?_
        refine xk_load rfl (p := 380) rfl rfl ?_
        refine xk_load rfl (p := 381) rfl rfl ?_
        refine xk_push rfl (p := 382) rfl ?_
        refine xk_bin rfl (p := 383) rfl (z := ((v + 1 : Nat) : Int)) (congrArg some (xadd_n (n := v) (m := 1) (by omega))) ?_
        refine xk_ald rfl (p := 384) rfl (v := (0, Z (v + 1))) ((xal0 hA0 (show v + 1 < N0 by omega)).trans (congrArg (fun z => some (0, z)) (h1_1.a0 (v + 1) (by omega)))) ?_
        refine xk_load rfl (p := 385) rfl rfl ?_
        refine xk_load rfl (p := 386) rfl rfl ?_
        refine xk_push rfl (p := 387) rfl ?_
        refine xk_bin rfl (p := 388) rfl (z := ((v + 2 : Nat) : Int)) (congrArg some (xadd_n (n := v) (m := 2) (by omega))) ?_
        refine xk_ald rfl (p := 389) rfl (v := (0, Z (v + 2))) ((xal0 hA0 (show v + 2 < N0 by omega)).trans (congrArg (fun z => some (0, z)) (h1_1.a0 (v + 2) (by omega)))) ?_
        have pc_ := o_at (x := Z (v + 1)) (y := Z (v + 2)) L h1_1 (hZ _) (hZ _)
        generalize y_at m (Z (v + 1)) (Z (v + 2)) = A_ at pc_
        refine xk_call rfl (p := 392) rfl (by decide) rfl (Nat.le_of_ble_eq_true rfl) (Nat.le_of_ble_eq_true rfl) (xrv (ly_x L) (by decide)) (as := [(2, ((2 : Nat) : Int)), (0, Z (v + 1)), (0, Z (v + 2))]) (r := []) rfl (pc_) ?_
        rintro _ g v1 ⟨rfl, rfl, hB0, hB⟩
        refine xk_load rfl (p := 393) rfl rfl ?_
        refine xk_load rfl (p := 394) rfl rfl ?_
        refine xk_load rfl (p := 395) rfl rfl ?_
        refine xk_push rfl (p := 396) rfl ?_
        refine xk_bin rfl (p := 397) rfl (z := ((v + 1 : Nat) : Int)) (congrArg some (xadd_n (n := v) (m := 1) (by omega))) ?_
        refine xk_ald rfl (p := 398) rfl (v := (0, Z (v + 1))) ((xal0 hA0 (show v + 1 < N0 by omega)).trans (congrArg (fun z => some (0, z)) (hB0 (v + 1) (by omega)))) ?_
        refine xk_load rfl (p := 399) rfl rfl ?_
        refine xk_load rfl (p := 400) rfl rfl ?_
        refine xk_push rfl (p := 401) rfl ?_
        refine xk_bin rfl (p := 402) rfl (z := ((v + 2 : Nat) : Int)) (congrArg some (xadd_n (n := v) (m := 2) (by omega))) ?_
        refine xk_ald rfl (p := 403) rfl (v := (0, Z (v + 2))) ((xal0 hA0 (show v + 2 < N0 by omega)).trans (congrArg (fun z => some (0, z)) (hB0 (v + 2) (by omega)))) ?_
        refine xk_call rfl (p := 406) rfl (by decide) rfl (Nat.le_of_ble_eq_true rfl) (Nat.le_of_ble_eq_true rfl) (xrv (ly_m L) (by decide)) (as := [(2, ((292 : Nat) : Int)), (0, Z (v + 1)), (0, Z (v + 2))]) (r := [(0, A_)]) rfl (hB) ?_
        rintro _ g v2 ⟨rfl, rfl, w_, hW⟩
        refine xk_icmp rfl (p := 409) rfl (fun c406_16 => ?_) (fun c406_16 => ?_)
        · replace c406_16 : A_ = A_ := c406_16
          refine xk_iinc rfl (p := 1380) rfl (x := ((v : Nat) : Int)) rfl (ls' := [(2, ((0 : Nat) : Int)), (2, ((2 : Nat) : Int)), (2, ((292 : Nat) : Int)), (0, ((v + 6 : Nat) : Int))]) (by rw [show xadd ((v : Nat) : Int) 6 = ((v + 6 : Nat) : Int) from (xadd_r (by omega) (by omega)).trans (by omega)]; rfl) ?_
          refine xk_goto rfl ?_
          exact ih1 (by omega) (v + 6) w_ v2 (by exact hW) (by omega)
        · replace c406_16 : ¬ (A_ = A_) := c406_16
          exact absurd c406_16 (by exact fun h => h rfl)
      by_cases c33_17 : xand (Z v) 63 = 7
      · refine xk_switch rfl (w := 411) (by rw [c33_17]; rfl) ?_
        refine xk_load rfl (p := 412) rfl rfl ?_
        refine xk_load rfl (p := 413) rfl rfl ?_
        refine xk_load rfl (p := 414) rfl rfl ?_
        refine xk_push rfl (p := 415) rfl ?_
        refine xk_bin rfl (p := 416) rfl (z := ((v + 1 : Nat) : Int)) (congrArg some (xadd_n (n := v) (m := 1) (by omega))) ?_
        refine xk_ald rfl (p := 417) rfl (v := (0, Z (v + 1))) ((xal0 hA0 (show v + 1 < N0 by omega)).trans (congrArg (fun z => some (0, z)) (h1_1.a0 (v + 1) (by omega)))) ?_
        have pc_ := o_expire (x := Z (v + 1)) L h1_1 (hZ _)
        obtain ⟨A_, hA_⟩ := y_expire_some (m := m) (x := Z (v + 1))
        rw [hA_] at pc_
        refine xk_call rfl (p := 420) rfl (by decide) rfl (Nat.le_of_ble_eq_true rfl) (Nat.le_of_ble_eq_true rfl) (xrv (ly_x L) (by decide)) (as := [(2, ((2 : Nat) : Int)), (0, Z (v + 1))]) (r := []) rfl (pc_) ?_
        rintro _ g v1 ⟨rfl, rfl, hB0, hB⟩
        refine xk_load rfl (p := 421) rfl rfl ?_
        refine xk_load rfl (p := 422) rfl rfl ?_
        refine xk_load rfl (p := 423) rfl rfl ?_
        refine xk_push rfl (p := 424) rfl ?_
        refine xk_bin rfl (p := 425) rfl (z := ((v + 1 : Nat) : Int)) (congrArg some (xadd_n (n := v) (m := 1) (by omega))) ?_
        refine xk_ald rfl (p := 426) rfl (v := (0, Z (v + 1))) ((xal0 hA0 (show v + 1 < N0 by omega)).trans (congrArg (fun z => some (0, z)) (hB0 (v + 1) (by omega)))) ?_
        refine xk_call rfl (p := 429) rfl (by decide) rfl (Nat.le_of_ble_eq_true rfl) (Nat.le_of_ble_eq_true rfl) (xrv (ly_m L) (by decide)) (as := [(2, ((292 : Nat) : Int)), (0, Z (v + 1))]) (r := [(0, A_)]) rfl (hB) ?_
        rintro _ g v2 ⟨rfl, rfl, w_, hW⟩
        refine xk_icmp rfl (p := 432) rfl (fun c429_18 => ?_) (fun c429_18 => ?_)
        · replace c429_18 : A_ = A_ := c429_18
          refine xk_iinc rfl (p := 1380) rfl (x := ((v : Nat) : Int)) rfl (ls' := [(2, ((0 : Nat) : Int)), (2, ((2 : Nat) : Int)), (2, ((292 : Nat) : Int)), (0, ((v + 6 : Nat) : Int))]) (by rw [show xadd ((v : Nat) : Int) 6 = ((v + 6 : Nat) : Int) from (xadd_r (by omega) (by omega)).trans (by omega)]; rfl) ?_
          refine xk_goto rfl ?_
          exact ih1 (by omega) (v + 6) w_ v2 (by exact hW) (by omega)
        · replace c429_18 : ¬ (A_ = A_) := c429_18
          exact absurd c429_18 (by exact fun h => h rfl)
      by_cases c33_19 : xand (Z v) 63 = 8
      · refine xk_switch rfl (w := 434) (by rw [c33_19]; rfl) ?_
        refine xk_load rfl (p := 435) rfl rfl ?_
        refine xk_load rfl (p := 436) rfl rfl ?_
        refine xk_load rfl (p := 437) rfl rfl ?_
        refine xk_push rfl (p := 438) rfl ?_
        refine xk_bin rfl (p := 439) rfl (z := ((v + 1 : Nat) : Int)) (congrArg some (xadd_n (n := v) (m := 1) (by omega))) ?_
        refine xk_ald rfl (p := 440) rfl (v := (0, Z (v + 1))) ((xal0 hA0 (show v + 1 < N0 by omega)).trans (congrArg (fun z => some (0, z)) (h1_1.a0 (v + 1) (by omega)))) ?_
        have pc_ := o_deal (x := Z (v + 1)) L h1_1 (hZ _)
        obtain ⟨A_, hA_⟩ := y_deal_some (m := m) (x := Z (v + 1))
        rw [hA_] at pc_
        refine xk_call rfl (p := 443) rfl (by decide) rfl (Nat.le_of_ble_eq_true rfl) (Nat.le_of_ble_eq_true rfl) (xrv (ly_x L) (by decide)) (as := [(2, ((2 : Nat) : Int)), (0, Z (v + 1))]) (r := []) rfl (pc_) ?_
        rintro _ g v1 ⟨rfl, rfl, hB0, hB⟩
        refine xk_load rfl (p := 444) rfl rfl ?_
        refine xk_load rfl (p := 445) rfl rfl ?_
        refine xk_load rfl (p := 446) rfl rfl ?_
        refine xk_push rfl (p := 447) rfl ?_
        refine xk_bin rfl (p := 448) rfl (z := ((v + 1 : Nat) : Int)) (congrArg some (xadd_n (n := v) (m := 1) (by omega))) ?_
        refine xk_ald rfl (p := 449) rfl (v := (0, Z (v + 1))) ((xal0 hA0 (show v + 1 < N0 by omega)).trans (congrArg (fun z => some (0, z)) (hB0 (v + 1) (by omega)))) ?_
        refine xk_call rfl (p := 452) rfl (by decide) rfl (Nat.le_of_ble_eq_true rfl) (Nat.le_of_ble_eq_true rfl) (xrv (ly_m L) (by decide)) (as := [(2, ((292 : Nat) : Int)), (0, Z (v + 1))]) (r := [(0, A_)]) rfl (hB) ?_
        rintro _ g v2 ⟨rfl, rfl, w_, hW⟩
        refine xk_icmp rfl (p := 455) rfl (fun c452_20 => ?_) (fun c452_20 => ?_)
        · replace c452_20 : A_ = A_ := c452_20
          refine xk_iinc rfl (p := 1380) rfl (x := ((v : Nat) : Int)) rfl (ls' := [(2, ((0 : Nat) : Int)), (2, ((2 : Nat) : Int)), (2, ((292 : Nat) : Int)), (0, ((v + 6 : Nat) : Int))]) (by rw [show xadd ((v : Nat) : Int) 6 = ((v + 6 : Nat) : Int) from (xadd_r (by omega) (by omega)).trans (by omega)]; rfl) ?_
          refine xk_goto rfl ?_
          exact ih1 (by omega) (v + 6) w_ v2 (by exact hW) (by omega)
        · replace c452_20 : ¬ (A_ = A_) := c452_20
          exact absurd c452_20 (by exact fun h => h rfl)
      by_cases c33_21 : xand (Z v) 63 = 9
      · refine xk_switch rfl (w := 457) (by rw [c33_21]; rfl) ?_
        refine xk_load rfl (p := 458) rfl rfl ?_
        refine xk_load rfl (p := 459) rfl rfl ?_
        refine xk_load rfl (p := 460) rfl rfl ?_
        refine xk_push rfl (p := 461) rfl ?_
        refine xk_bin rfl (p := 462) rfl (z := ((v + 1 : Nat) : Int)) (congrArg some (xadd_n (n := v) (m := 1) (by omega))) ?_
        refine xk_ald rfl (p := 463) rfl (v := (0, Z (v + 1))) ((xal0 hA0 (show v + 1 < N0 by omega)).trans (congrArg (fun z => some (0, z)) (h1_1.a0 (v + 1) (by omega)))) ?_
        refine xk_load rfl (p := 464) rfl rfl ?_
        refine xk_load rfl (p := 465) rfl rfl ?_
        refine xk_push rfl (p := 466) rfl ?_
        refine xk_bin rfl (p := 467) rfl (z := ((v + 2 : Nat) : Int)) (congrArg some (xadd_n (n := v) (m := 2) (by omega))) ?_
        refine xk_ald rfl (p := 468) rfl (v := (0, Z (v + 2))) ((xal0 hA0 (show v + 2 < N0 by omega)).trans (congrArg (fun z => some (0, z)) (h1_1.a0 (v + 2) (by omega)))) ?_
        refine xk_load rfl (p := 469) rfl rfl ?_
        refine xk_load rfl (p := 470) rfl rfl ?_
        refine xk_push rfl (p := 471) rfl ?_
        refine xk_bin rfl (p := 472) rfl (z := ((v + 3 : Nat) : Int)) (congrArg some (xadd_n (n := v) (m := 3) (by omega))) ?_
        refine xk_ald rfl (p := 473) rfl (v := (0, Z (v + 3))) ((xal0 hA0 (show v + 3 < N0 by omega)).trans (congrArg (fun z => some (0, z)) (h1_1.a0 (v + 3) (by omega)))) ?_
        refine xk_load rfl (p := 474) rfl rfl ?_
        refine xk_load rfl (p := 475) rfl rfl ?_
        refine xk_push rfl (p := 476) rfl ?_
        refine xk_bin rfl (p := 477) rfl (z := ((v + 4 : Nat) : Int)) (congrArg some (xadd_n (n := v) (m := 4) (by omega))) ?_
        refine xk_ald rfl (p := 478) rfl (v := (0, Z (v + 4))) ((xal0 hA0 (show v + 4 < N0 by omega)).trans (congrArg (fun z => some (0, z)) (h1_1.a0 (v + 4) (by omega)))) ?_
        have pc_ := o_put (x := Z (v + 1)) (y := Z (v + 2)) (z := Z (v + 3)) (w := Z (v + 4)) L h1_1 (hZ _) (hZ _) (hZ _) (hZ _)
        obtain ⟨A_, hA_⟩ := y_put_some (m := m) (x := Z (v + 1)) (y := Z (v + 2)) (z := Z (v + 3)) (w := Z (v + 4))
        rw [hA_] at pc_
        refine xk_call rfl (p := 481) rfl (by decide) rfl (Nat.le_of_ble_eq_true rfl) (Nat.le_of_ble_eq_true rfl) (xrv (ly_x L) (by decide)) (as := [(2, ((2 : Nat) : Int)), (0, Z (v + 1)), (0, Z (v + 2)), (0, Z (v + 3)), (0, Z (v + 4))]) (r := []) rfl (pc_) ?_
        rintro _ g v1 ⟨rfl, rfl, hB0, hB⟩
        refine xk_load rfl (p := 482) rfl rfl ?_
        refine xk_load rfl (p := 483) rfl rfl ?_
        refine xk_load rfl (p := 484) rfl rfl ?_
        refine xk_push rfl (p := 485) rfl ?_
        refine xk_bin rfl (p := 486) rfl (z := ((v + 1 : Nat) : Int)) (congrArg some (xadd_n (n := v) (m := 1) (by omega))) ?_
        refine xk_ald rfl (p := 487) rfl (v := (0, Z (v + 1))) ((xal0 hA0 (show v + 1 < N0 by omega)).trans (congrArg (fun z => some (0, z)) (hB0 (v + 1) (by omega)))) ?_
        refine xk_load rfl (p := 488) rfl rfl ?_
        refine xk_load rfl (p := 489) rfl rfl ?_
        refine xk_push rfl (p := 490) rfl ?_
        refine xk_bin rfl (p := 491) rfl (z := ((v + 2 : Nat) : Int)) (congrArg some (xadd_n (n := v) (m := 2) (by omega))) ?_
        refine xk_ald rfl (p := 492) rfl (v := (0, Z (v + 2))) ((xal0 hA0 (show v + 2 < N0 by omega)).trans (congrArg (fun z => some (0, z)) (hB0 (v + 2) (by omega)))) ?_
        refine xk_load rfl (p := 493) rfl rfl ?_
        refine xk_load rfl (p := 494) rfl rfl ?_
        refine xk_push rfl (p := 495) rfl ?_
        refine xk_bin rfl (p := 496) rfl (z := ((v + 3 : Nat) : Int)) (congrArg some (xadd_n (n := v) (m := 3) (by omega))) ?_
        refine xk_ald rfl (p := 497) rfl (v := (0, Z (v + 3))) ((xal0 hA0 (show v + 3 < N0 by omega)).trans (congrArg (fun z => some (0, z)) (hB0 (v + 3) (by omega)))) ?_
        refine xk_load rfl (p := 498) rfl rfl ?_
        refine xk_load rfl (p := 499) rfl rfl ?_
        refine xk_push rfl (p := 500) rfl ?_
        refine xk_bin rfl (p := 501) rfl (z := ((v + 4 : Nat) : Int)) (congrArg some (xadd_n (n := v) (m := 4) (by omega))) ?_
        refine xk_ald rfl (p := 502) rfl (v := (0, Z (v + 4))) ((xal0 hA0 (show v + 4 < N0 by omega)).trans (congrArg (fun z => some (0, z)) (hB0 (v + 4) (by omega)))) ?_
        refine xk_call rfl (p := 505) rfl (by decide) rfl (Nat.le_of_ble_eq_true rfl) (Nat.le_of_ble_eq_true rfl) (xrv (ly_m L) (by decide)) (as := [(2, ((292 : Nat) : Int)), (0, Z (v + 1)), (0, Z (v + 2)), (0, Z (v + 3)), (0, Z (v + 4))]) (r := [(0, A_)]) rfl (hB) ?_
        rintro _ g v2 ⟨rfl, rfl, w_, hW⟩
        refine xk_icmp rfl (p := 508) rfl (fun c505_22 => ?_) (fun c505_22 => ?_)
        · replace c505_22 : A_ = A_ := c505_22
          refine xk_iinc rfl (p := 1380) rfl (x := ((v : Nat) : Int)) rfl (ls' := [(2, ((0 : Nat) : Int)), (2, ((2 : Nat) : Int)), (2, ((292 : Nat) : Int)), (0, ((v + 6 : Nat) : Int))]) (by rw [show xadd ((v : Nat) : Int) 6 = ((v + 6 : Nat) : Int) from (xadd_r (by omega) (by omega)).trans (by omega)]; rfl) ?_
          refine xk_goto rfl ?_
          exact ih1 (by omega) (v + 6) w_ v2 (by exact hW) (by omega)
        · replace c505_22 : ¬ (A_ = A_) := c505_22
          exact absurd c505_22 (by exact fun h => h rfl)
      by_cases c33_23 : xand (Z v) 63 = 10
      · refine xk_switch rfl (w := 510) (by rw [c33_23]; rfl) ?_
        refine xk_load rfl (p := 511) rfl rfl ?_
        refine xk_load rfl (p := 512) rfl rfl ?_
        refine xk_load rfl (p := 513) rfl rfl ?_
        refine xk_push rfl (p := 514) rfl ?_
        refine xk_bin rfl (p := 515) rfl (z := ((v + 1 : Nat) : Int)) (congrArg some (xadd_n (n := v) (m := 1) (by omega))) ?_
        refine xk_ald rfl (p := 516) rfl (v := (0, Z (v + 1))) ((xal0 hA0 (show v + 1 < N0 by omega)).trans (congrArg (fun z => some (0, z)) (h1_1.a0 (v + 1) (by omega)))) ?_
        have pc_ := o_prepare (x := Z (v + 1)) L h1_1 (hZ _)
        obtain ⟨A_, hA_⟩ := y_prepare_some (m := m) (x := Z (v + 1))
        rw [hA_] at pc_
        refine xk_call rfl (p := 519) rfl (by decide) rfl (Nat.le_of_ble_eq_true rfl) (Nat.le_of_ble_eq_true rfl) (xrv (ly_x L) (by decide)) (as := [(2, ((2 : Nat) : Int)), (0, Z (v + 1))]) (r := []) rfl (pc_) ?_
        rintro _ g v1 ⟨rfl, rfl, hB0, hB⟩
        refine xk_load rfl (p := 520) rfl rfl ?_
        refine xk_load rfl (p := 521) rfl rfl ?_
        refine xk_load rfl (p := 522) rfl rfl ?_
        refine xk_push rfl (p := 523) rfl ?_
        refine xk_bin rfl (p := 524) rfl (z := ((v + 1 : Nat) : Int)) (congrArg some (xadd_n (n := v) (m := 1) (by omega))) ?_
        refine xk_ald rfl (p := 525) rfl (v := (0, Z (v + 1))) ((xal0 hA0 (show v + 1 < N0 by omega)).trans (congrArg (fun z => some (0, z)) (hB0 (v + 1) (by omega)))) ?_
        refine xk_call rfl (p := 528) rfl (by decide) rfl (Nat.le_of_ble_eq_true rfl) (Nat.le_of_ble_eq_true rfl) (xrv (ly_m L) (by decide)) (as := [(2, ((292 : Nat) : Int)), (0, Z (v + 1))]) (r := [(0, A_)]) rfl (hB) ?_
        rintro _ g v2 ⟨rfl, rfl, w_, hW⟩
        refine xk_icmp rfl (p := 531) rfl (fun c528_24 => ?_) (fun c528_24 => ?_)
        · replace c528_24 : A_ = A_ := c528_24
          refine xk_iinc rfl (p := 1380) rfl (x := ((v : Nat) : Int)) rfl (ls' := [(2, ((0 : Nat) : Int)), (2, ((2 : Nat) : Int)), (2, ((292 : Nat) : Int)), (0, ((v + 6 : Nat) : Int))]) (by rw [show xadd ((v : Nat) : Int) 6 = ((v + 6 : Nat) : Int) from (xadd_r (by omega) (by omega)).trans (by omega)]; rfl) ?_
          refine xk_goto rfl ?_
          exact ih1 (by omega) (v + 6) w_ v2 (by exact hW) (by omega)
        · replace c528_24 : ¬ (A_ = A_) := c528_24
          exact absurd c528_24 (by exact fun h => h rfl)
      by_cases c33_25 : xand (Z v) 63 = 11
      · refine xk_switch rfl (w := 533) (by rw [c33_25]; rfl) ?_
        refine xk_load rfl (p := 534) rfl rfl ?_
        refine xk_load rfl (p := 535) rfl rfl ?_
        refine xk_load rfl (p := 536) rfl rfl ?_
        refine xk_push rfl (p := 537) rfl ?_
        refine xk_bin rfl (p := 538) rfl (z := ((v + 1 : Nat) : Int)) (congrArg some (xadd_n (n := v) (m := 1) (by omega))) ?_
        refine xk_ald rfl (p := 539) rfl (v := (0, Z (v + 1))) ((xal0 hA0 (show v + 1 < N0 by omega)).trans (congrArg (fun z => some (0, z)) (h1_1.a0 (v + 1) (by omega)))) ?_
        have pc_ := o_commit (x := Z (v + 1)) L h1_1 (hZ _)
        obtain ⟨A_, hA_⟩ := y_commit_some (m := m) (x := Z (v + 1))
        rw [hA_] at pc_
        refine xk_call rfl (p := 542) rfl (by decide) rfl (Nat.le_of_ble_eq_true rfl) (Nat.le_of_ble_eq_true rfl) (xrv (ly_x L) (by decide)) (as := [(2, ((2 : Nat) : Int)), (0, Z (v + 1))]) (r := []) rfl (pc_) ?_
        rintro _ g v1 ⟨rfl, rfl, hB0, hB⟩
        refine xk_load rfl (p := 543) rfl rfl ?_
        refine xk_load rfl (p := 544) rfl rfl ?_
        refine xk_load rfl (p := 545) rfl rfl ?_
        refine xk_push rfl (p := 546) rfl ?_
        refine xk_bin rfl (p := 547) rfl (z := ((v + 1 : Nat) : Int)) (congrArg some (xadd_n (n := v) (m := 1) (by omega))) ?_
        refine xk_ald rfl (p := 548) rfl (v := (0, Z (v + 1))) ((xal0 hA0 (show v + 1 < N0 by omega)).trans (congrArg (fun z => some (0, z)) (hB0 (v + 1) (by omega)))) ?_
        refine xk_call rfl (p := 551) rfl (by decide) rfl (Nat.le_of_ble_eq_true rfl) (Nat.le_of_ble_eq_true rfl) (xrv (ly_m L) (by decide)) (as := [(2, ((292 : Nat) : Int)), (0, Z (v + 1))]) (r := [(0, A_)]) rfl (hB) ?_
        rintro _ g v2 ⟨rfl, rfl, w_, hW⟩
        refine xk_icmp rfl (p := 554) rfl (fun c551_26 => ?_) (fun c551_26 => ?_)
        · replace c551_26 : A_ = A_ := c551_26
          refine xk_iinc rfl (p := 1380) rfl (x := ((v : Nat) : Int)) rfl (ls' := [(2, ((0 : Nat) : Int)), (2, ((2 : Nat) : Int)), (2, ((292 : Nat) : Int)), (0, ((v + 6 : Nat) : Int))]) (by rw [show xadd ((v : Nat) : Int) 6 = ((v + 6 : Nat) : Int) from (xadd_r (by omega) (by omega)).trans (by omega)]; rfl) ?_
          refine xk_goto rfl ?_
          exact ih1 (by omega) (v + 6) w_ v2 (by exact hW) (by omega)
        · replace c551_26 : ¬ (A_ = A_) := c551_26
          exact absurd c551_26 (by exact fun h => h rfl)
      by_cases c33_27 : xand (Z v) 63 = 12
      · refine xk_switch rfl (w := 556) (by rw [c33_27]; rfl) ?_
        refine xk_load rfl (p := 557) rfl rfl ?_
        refine xk_load rfl (p := 558) rfl rfl ?_
        refine xk_load rfl (p := 559) rfl rfl ?_
        refine xk_push rfl (p := 560) rfl ?_
        refine xk_bin rfl (p := 561) rfl (z := ((v + 1 : Nat) : Int)) (congrArg some (xadd_n (n := v) (m := 1) (by omega))) ?_
        refine xk_ald rfl (p := 562) rfl (v := (0, Z (v + 1))) ((xal0 hA0 (show v + 1 < N0 by omega)).trans (congrArg (fun z => some (0, z)) (h1_1.a0 (v + 1) (by omega)))) ?_
        have pc_ := o_abandon (x := Z (v + 1)) L h1_1 (hZ _)
        obtain ⟨A_, hA_⟩ := y_abandon_some (m := m) (x := Z (v + 1))
        rw [hA_] at pc_
        refine xk_call rfl (p := 565) rfl (by decide) rfl (Nat.le_of_ble_eq_true rfl) (Nat.le_of_ble_eq_true rfl) (xrv (ly_x L) (by decide)) (as := [(2, ((2 : Nat) : Int)), (0, Z (v + 1))]) (r := []) rfl (pc_) ?_
        rintro _ g v1 ⟨rfl, rfl, hB0, hB⟩
        refine xk_load rfl (p := 566) rfl rfl ?_
        refine xk_load rfl (p := 567) rfl rfl ?_
        refine xk_load rfl (p := 568) rfl rfl ?_
        refine xk_push rfl (p := 569) rfl ?_
        refine xk_bin rfl (p := 570) rfl (z := ((v + 1 : Nat) : Int)) (congrArg some (xadd_n (n := v) (m := 1) (by omega))) ?_
        refine xk_ald rfl (p := 571) rfl (v := (0, Z (v + 1))) ((xal0 hA0 (show v + 1 < N0 by omega)).trans (congrArg (fun z => some (0, z)) (hB0 (v + 1) (by omega)))) ?_
        refine xk_call rfl (p := 574) rfl (by decide) rfl (Nat.le_of_ble_eq_true rfl) (Nat.le_of_ble_eq_true rfl) (xrv (ly_m L) (by decide)) (as := [(2, ((292 : Nat) : Int)), (0, Z (v + 1))]) (r := [(0, A_)]) rfl (hB) ?_
        rintro _ g v2 ⟨rfl, rfl, w_, hW⟩
        refine xk_icmp rfl (p := 577) rfl (fun c574_28 => ?_) (fun c574_28 => ?_)
        · replace c574_28 : A_ = A_ := c574_28
          refine xk_iinc rfl (p := 1380) rfl (x := ((v : Nat) : Int)) rfl (ls' := [(2, ((0 : Nat) : Int)), (2, ((2 : Nat) : Int)), (2, ((292 : Nat) : Int)), (0, ((v + 6 : Nat) : Int))]) (by rw [show xadd ((v : Nat) : Int) 6 = ((v + 6 : Nat) : Int) from (xadd_r (by omega) (by omega)).trans (by omega)]; rfl) ?_
          refine xk_goto rfl ?_
          exact ih1 (by omega) (v + 6) w_ v2 (by exact hW) (by omega)
        · replace c574_28 : ¬ (A_ = A_) := c574_28
          exact absurd c574_28 (by exact fun h => h rfl)
      by_cases c33_29 : xand (Z v) 63 = 13
      · refine xk_switch rfl (w := 579) (by rw [c33_29]; rfl) ?_
        refine xk_load rfl (p := 580) rfl rfl ?_
        have pc_ := o_repack L h1_1
        obtain ⟨A_, hA_⟩ := y_repack_some (m := m)
        rw [hA_] at pc_
        refine xk_call rfl (p := 583) rfl (by decide) rfl (Nat.le_of_ble_eq_true rfl) (Nat.le_of_ble_eq_true rfl) (xrv (ly_x L) (by decide)) (as := [(2, ((2 : Nat) : Int))]) (r := []) rfl (pc_) ?_
        rintro _ g v1 ⟨rfl, rfl, hB0, hB⟩
        refine xk_load rfl (p := 584) rfl rfl ?_
        refine xk_call rfl (p := 587) rfl (by decide) rfl (Nat.le_of_ble_eq_true rfl) (Nat.le_of_ble_eq_true rfl) (xrv (ly_m L) (by decide)) (as := [(2, ((292 : Nat) : Int))]) (r := [(0, A_)]) rfl (hB) ?_
        rintro _ g v2 ⟨rfl, rfl, w_, hW⟩
        refine xk_icmp rfl (p := 590) rfl (fun c587_30 => ?_) (fun c587_30 => ?_)
        · replace c587_30 : A_ = A_ := c587_30
          refine xk_iinc rfl (p := 1380) rfl (x := ((v : Nat) : Int)) rfl (ls' := [(2, ((0 : Nat) : Int)), (2, ((2 : Nat) : Int)), (2, ((292 : Nat) : Int)), (0, ((v + 6 : Nat) : Int))]) (by rw [show xadd ((v : Nat) : Int) 6 = ((v + 6 : Nat) : Int) from (xadd_r (by omega) (by omega)).trans (by omega)]; rfl) ?_
          refine xk_goto rfl ?_
          exact ih1 (by omega) (v + 6) w_ v2 (by exact hW) (by omega)
        · replace c587_30 : ¬ (A_ = A_) := c587_30
          exact absurd c587_30 (by exact fun h => h rfl)
      by_cases c33_31 : xand (Z v) 63 = 14
      · refine xk_switch rfl (w := 592) (by rw [c33_31]; rfl) ?_
        refine xk_load rfl (p := 593) rfl rfl ?_
        refine xk_load rfl (p := 594) rfl rfl ?_
        refine xk_load rfl (p := 595) rfl rfl ?_
        refine xk_push rfl (p := 596) rfl ?_
        refine xk_bin rfl (p := 597) rfl (z := ((v + 1 : Nat) : Int)) (congrArg some (xadd_n (n := v) (m := 1) (by omega))) ?_
        refine xk_ald rfl (p := 598) rfl (v := (0, Z (v + 1))) ((xal0 hA0 (show v + 1 < N0 by omega)).trans (congrArg (fun z => some (0, z)) (h1_1.a0 (v + 1) (by omega)))) ?_
        refine xk_load rfl (p := 599) rfl rfl ?_
        refine xk_load rfl (p := 600) rfl rfl ?_
        refine xk_push rfl (p := 601) rfl ?_
        refine xk_bin rfl (p := 602) rfl (z := ((v + 2 : Nat) : Int)) (congrArg some (xadd_n (n := v) (m := 2) (by omega))) ?_
        refine xk_ald rfl (p := 603) rfl (v := (0, Z (v + 2))) ((xal0 hA0 (show v + 2 < N0 by omega)).trans (congrArg (fun z => some (0, z)) (h1_1.a0 (v + 2) (by omega)))) ?_
        have pc_ := o_step (x := Z (v + 1)) (y := Z (v + 2)) L h1_1 (hZ _) (hZ _)
        obtain ⟨A_, hA_⟩ := y_step_some (m := m) (x := Z (v + 1)) (y := Z (v + 2))
        rw [hA_] at pc_
        refine xk_call rfl (p := 606) rfl (by decide) rfl (Nat.le_of_ble_eq_true rfl) (Nat.le_of_ble_eq_true rfl) (xrv (ly_x L) (by decide)) (as := [(2, ((2 : Nat) : Int)), (0, Z (v + 1)), (0, Z (v + 2))]) (r := []) rfl (pc_) ?_
        rintro _ g v1 ⟨rfl, rfl, hB0, hB⟩
        refine xk_load rfl (p := 607) rfl rfl ?_
        refine xk_load rfl (p := 608) rfl rfl ?_
        refine xk_load rfl (p := 609) rfl rfl ?_
        refine xk_push rfl (p := 610) rfl ?_
        refine xk_bin rfl (p := 611) rfl (z := ((v + 1 : Nat) : Int)) (congrArg some (xadd_n (n := v) (m := 1) (by omega))) ?_
        refine xk_ald rfl (p := 612) rfl (v := (0, Z (v + 1))) ((xal0 hA0 (show v + 1 < N0 by omega)).trans (congrArg (fun z => some (0, z)) (hB0 (v + 1) (by omega)))) ?_
        refine xk_load rfl (p := 613) rfl rfl ?_
        refine xk_load rfl (p := 614) rfl rfl ?_
        refine xk_push rfl (p := 615) rfl ?_
        refine xk_bin rfl (p := 616) rfl (z := ((v + 2 : Nat) : Int)) (congrArg some (xadd_n (n := v) (m := 2) (by omega))) ?_
        refine xk_ald rfl (p := 617) rfl (v := (0, Z (v + 2))) ((xal0 hA0 (show v + 2 < N0 by omega)).trans (congrArg (fun z => some (0, z)) (hB0 (v + 2) (by omega)))) ?_
        refine xk_call rfl (p := 620) rfl (by decide) rfl (Nat.le_of_ble_eq_true rfl) (Nat.le_of_ble_eq_true rfl) (xrv (ly_m L) (by decide)) (as := [(2, ((292 : Nat) : Int)), (0, Z (v + 1)), (0, Z (v + 2))]) (r := [(0, A_)]) rfl (hB) ?_
        rintro _ g v2 ⟨rfl, rfl, w_, hW⟩
        refine xk_icmp rfl (p := 623) rfl (fun c620_32 => ?_) (fun c620_32 => ?_)
        · replace c620_32 : A_ = A_ := c620_32
          refine xk_iinc rfl (p := 1380) rfl (x := ((v : Nat) : Int)) rfl (ls' := [(2, ((0 : Nat) : Int)), (2, ((2 : Nat) : Int)), (2, ((292 : Nat) : Int)), (0, ((v + 6 : Nat) : Int))]) (by rw [show xadd ((v : Nat) : Int) 6 = ((v + 6 : Nat) : Int) from (xadd_r (by omega) (by omega)).trans (by omega)]; rfl) ?_
          refine xk_goto rfl ?_
          exact ih1 (by omega) (v + 6) w_ v2 (by exact hW) (by omega)
        · replace c620_32 : ¬ (A_ = A_) := c620_32
          exact absurd c620_32 (by exact fun h => h rfl)
      by_cases c33_33 : xand (Z v) 63 = 15
      · refine xk_switch rfl (w := 625) (by rw [c33_33]; rfl) ?_
        refine xk_load rfl (p := 626) rfl rfl ?_
        have pc_ := o_crash L h1_1
        obtain ⟨A_, hA_⟩ := y_crash_some (m := m)
        rw [hA_] at pc_
        refine xk_call rfl (p := 629) rfl (by decide) rfl (Nat.le_of_ble_eq_true rfl) (Nat.le_of_ble_eq_true rfl) (xrv (ly_x L) (by decide)) (as := [(2, ((2 : Nat) : Int))]) (r := []) rfl (pc_) ?_
        rintro _ g v1 ⟨rfl, rfl, hB0, hB⟩
        refine xk_load rfl (p := 630) rfl rfl ?_
        refine xk_call rfl (p := 633) rfl (by decide) rfl (Nat.le_of_ble_eq_true rfl) (Nat.le_of_ble_eq_true rfl) (xrv (ly_m L) (by decide)) (as := [(2, ((292 : Nat) : Int))]) (r := [(0, A_)]) rfl (hB) ?_
        rintro _ g v2 ⟨rfl, rfl, w_, hW⟩
        refine xk_icmp rfl (p := 636) rfl (fun c633_34 => ?_) (fun c633_34 => ?_)
        · replace c633_34 : A_ = A_ := c633_34
          refine xk_iinc rfl (p := 1380) rfl (x := ((v : Nat) : Int)) rfl (ls' := [(2, ((0 : Nat) : Int)), (2, ((2 : Nat) : Int)), (2, ((292 : Nat) : Int)), (0, ((v + 6 : Nat) : Int))]) (by rw [show xadd ((v : Nat) : Int) 6 = ((v + 6 : Nat) : Int) from (xadd_r (by omega) (by omega)).trans (by omega)]; rfl) ?_
          refine xk_goto rfl ?_
          exact ih1 (by omega) (v + 6) w_ v2 (by exact hW) (by omega)
        · replace c633_34 : ¬ (A_ = A_) := c633_34
          exact absurd c633_34 (by exact fun h => h rfl)
      by_cases c33_35 : xand (Z v) 63 = 16
      · refine xk_switch rfl (w := 638) (by rw [c33_35]; rfl) ?_
        refine xk_load rfl (p := 639) rfl rfl ?_
        refine xk_load rfl (p := 640) rfl rfl ?_
        refine xk_load rfl (p := 641) rfl rfl ?_
        refine xk_push rfl (p := 642) rfl ?_
        refine xk_bin rfl (p := 643) rfl (z := ((v + 1 : Nat) : Int)) (congrArg some (xadd_n (n := v) (m := 1) (by omega))) ?_
        refine xk_ald rfl (p := 644) rfl (v := (0, Z (v + 1))) ((xal0 hA0 (show v + 1 < N0 by omega)).trans (congrArg (fun z => some (0, z)) (h1_1.a0 (v + 1) (by omega)))) ?_
        refine xk_load rfl (p := 645) rfl rfl ?_
        refine xk_load rfl (p := 646) rfl rfl ?_
        refine xk_push rfl (p := 647) rfl ?_
        refine xk_bin rfl (p := 648) rfl (z := ((v + 2 : Nat) : Int)) (congrArg some (xadd_n (n := v) (m := 2) (by omega))) ?_
        refine xk_ald rfl (p := 649) rfl (v := (0, Z (v + 2))) ((xal0 hA0 (show v + 2 < N0 by omega)).trans (congrArg (fun z => some (0, z)) (h1_1.a0 (v + 2) (by omega)))) ?_
        have pc_ := o_told (x := Z (v + 1)) (y := Z (v + 2)) L h1_1 (hZ _) (hZ _)
        generalize y_told m (Z (v + 1)) (Z (v + 2)) = A_ at pc_
        refine xk_call rfl (p := 652) rfl (by decide) rfl (Nat.le_of_ble_eq_true rfl) (Nat.le_of_ble_eq_true rfl) (xrv (ly_x L) (by decide)) (as := [(2, ((2 : Nat) : Int)), (0, Z (v + 1)), (0, Z (v + 2))]) (r := []) rfl (pc_) ?_
        rintro _ g v1 ⟨rfl, rfl, hB0, hB⟩
        refine xk_load rfl (p := 653) rfl rfl ?_
        refine xk_load rfl (p := 654) rfl rfl ?_
        refine xk_load rfl (p := 655) rfl rfl ?_
        refine xk_push rfl (p := 656) rfl ?_
        refine xk_bin rfl (p := 657) rfl (z := ((v + 1 : Nat) : Int)) (congrArg some (xadd_n (n := v) (m := 1) (by omega))) ?_
        refine xk_ald rfl (p := 658) rfl (v := (0, Z (v + 1))) ((xal0 hA0 (show v + 1 < N0 by omega)).trans (congrArg (fun z => some (0, z)) (hB0 (v + 1) (by omega)))) ?_
        refine xk_load rfl (p := 659) rfl rfl ?_
        refine xk_load rfl (p := 660) rfl rfl ?_
        refine xk_push rfl (p := 661) rfl ?_
        refine xk_bin rfl (p := 662) rfl (z := ((v + 2 : Nat) : Int)) (congrArg some (xadd_n (n := v) (m := 2) (by omega))) ?_
        refine xk_ald rfl (p := 663) rfl (v := (0, Z (v + 2))) ((xal0 hA0 (show v + 2 < N0 by omega)).trans (congrArg (fun z => some (0, z)) (hB0 (v + 2) (by omega)))) ?_
        refine xk_call rfl (p := 666) rfl (by decide) rfl (Nat.le_of_ble_eq_true rfl) (Nat.le_of_ble_eq_true rfl) (xrv (ly_m L) (by decide)) (as := [(2, ((292 : Nat) : Int)), (0, Z (v + 1)), (0, Z (v + 2))]) (r := [(0, A_)]) rfl (hB) ?_
        rintro _ g v2 ⟨rfl, rfl, w_, hW⟩
        refine xk_icmp rfl (p := 669) rfl (fun c666_36 => ?_) (fun c666_36 => ?_)
        · replace c666_36 : A_ = A_ := c666_36
          refine xk_iinc rfl (p := 1380) rfl (x := ((v : Nat) : Int)) rfl (ls' := [(2, ((0 : Nat) : Int)), (2, ((2 : Nat) : Int)), (2, ((292 : Nat) : Int)), (0, ((v + 6 : Nat) : Int))]) (by rw [show xadd ((v : Nat) : Int) 6 = ((v + 6 : Nat) : Int) from (xadd_r (by omega) (by omega)).trans (by omega)]; rfl) ?_
          refine xk_goto rfl ?_
          exact ih1 (by omega) (v + 6) w_ v2 (by exact hW) (by omega)
        · replace c666_36 : ¬ (A_ = A_) := c666_36
          exact absurd c666_36 (by exact fun h => h rfl)
      by_cases c33_37 : xand (Z v) 63 = 17
      · refine xk_switch rfl (w := 671) (by rw [c33_37]; rfl) ?_
        refine xk_load rfl (p := 672) rfl rfl ?_
        refine xk_load rfl (p := 673) rfl rfl ?_
        refine xk_load rfl (p := 674) rfl rfl ?_
        refine xk_push rfl (p := 675) rfl ?_
        refine xk_bin rfl (p := 676) rfl (z := ((v + 1 : Nat) : Int)) (congrArg some (xadd_n (n := v) (m := 1) (by omega))) ?_
        refine xk_ald rfl (p := 677) rfl (v := (0, Z (v + 1))) ((xal0 hA0 (show v + 1 < N0 by omega)).trans (congrArg (fun z => some (0, z)) (h1_1.a0 (v + 1) (by omega)))) ?_
        have pc_ := o_state (x := Z (v + 1)) L h1_1 (hZ _)
        generalize y_state m (Z (v + 1)) = A_ at pc_
        refine xk_call rfl (p := 680) rfl (by decide) rfl (Nat.le_of_ble_eq_true rfl) (Nat.le_of_ble_eq_true rfl) (xrv (ly_x L) (by decide)) (as := [(2, ((2 : Nat) : Int)), (0, Z (v + 1))]) (r := []) rfl (pc_) ?_
        rintro _ g v1 ⟨rfl, rfl, hB0, hB⟩
        refine xk_load rfl (p := 681) rfl rfl ?_
        refine xk_load rfl (p := 682) rfl rfl ?_
        refine xk_load rfl (p := 683) rfl rfl ?_
        refine xk_push rfl (p := 684) rfl ?_
        refine xk_bin rfl (p := 685) rfl (z := ((v + 1 : Nat) : Int)) (congrArg some (xadd_n (n := v) (m := 1) (by omega))) ?_
        refine xk_ald rfl (p := 686) rfl (v := (0, Z (v + 1))) ((xal0 hA0 (show v + 1 < N0 by omega)).trans (congrArg (fun z => some (0, z)) (hB0 (v + 1) (by omega)))) ?_
        refine xk_call rfl (p := 689) rfl (by decide) rfl (Nat.le_of_ble_eq_true rfl) (Nat.le_of_ble_eq_true rfl) (xrv (ly_m L) (by decide)) (as := [(2, ((292 : Nat) : Int)), (0, Z (v + 1))]) (r := [(0, A_)]) rfl (hB) ?_
        rintro _ g v2 ⟨rfl, rfl, w_, hW⟩
        refine xk_icmp rfl (p := 692) rfl (fun c689_38 => ?_) (fun c689_38 => ?_)
        · replace c689_38 : A_ = A_ := c689_38
          refine xk_iinc rfl (p := 1380) rfl (x := ((v : Nat) : Int)) rfl (ls' := [(2, ((0 : Nat) : Int)), (2, ((2 : Nat) : Int)), (2, ((292 : Nat) : Int)), (0, ((v + 6 : Nat) : Int))]) (by rw [show xadd ((v : Nat) : Int) 6 = ((v + 6 : Nat) : Int) from (xadd_r (by omega) (by omega)).trans (by omega)]; rfl) ?_
          refine xk_goto rfl ?_
          exact ih1 (by omega) (v + 6) w_ v2 (by exact hW) (by omega)
        · replace c689_38 : ¬ (A_ = A_) := c689_38
          exact absurd c689_38 (by exact fun h => h rfl)
      by_cases c33_39 : xand (Z v) 63 = 18
      · refine xk_switch rfl (w := 694) (by rw [c33_39]; rfl) ?_
        refine xk_load rfl (p := 695) rfl rfl ?_
        refine xk_load rfl (p := 696) rfl rfl ?_
        refine xk_load rfl (p := 697) rfl rfl ?_
        refine xk_push rfl (p := 698) rfl ?_
        refine xk_bin rfl (p := 699) rfl (z := ((v + 1 : Nat) : Int)) (congrArg some (xadd_n (n := v) (m := 1) (by omega))) ?_
        refine xk_ald rfl (p := 700) rfl (v := (0, Z (v + 1))) ((xal0 hA0 (show v + 1 < N0 by omega)).trans (congrArg (fun z => some (0, z)) (h1_1.a0 (v + 1) (by omega)))) ?_
        refine xk_load rfl (p := 701) rfl rfl ?_
        refine xk_load rfl (p := 702) rfl rfl ?_
        refine xk_push rfl (p := 703) rfl ?_
        refine xk_bin rfl (p := 704) rfl (z := ((v + 2 : Nat) : Int)) (congrArg some (xadd_n (n := v) (m := 2) (by omega))) ?_
        refine xk_ald rfl (p := 705) rfl (v := (0, Z (v + 2))) ((xal0 hA0 (show v + 2 < N0 by omega)).trans (congrArg (fun z => some (0, z)) (h1_1.a0 (v + 2) (by omega)))) ?_
        refine xk_load rfl (p := 706) rfl rfl ?_
        refine xk_load rfl (p := 707) rfl rfl ?_
        refine xk_push rfl (p := 708) rfl ?_
        refine xk_bin rfl (p := 709) rfl (z := ((v + 3 : Nat) : Int)) (congrArg some (xadd_n (n := v) (m := 3) (by omega))) ?_
        refine xk_ald rfl (p := 710) rfl (v := (0, Z (v + 3))) ((xal0 hA0 (show v + 3 < N0 by omega)).trans (congrArg (fun z => some (0, z)) (h1_1.a0 (v + 3) (by omega)))) ?_
        have pc_ := o_after (x := Z (v + 1)) (y := Z (v + 2)) (z := Z (v + 3)) L h1_1 (hZ _) (hZ _) (hZ _)
        obtain ⟨A_, hA_⟩ := y_after_some (m := m) (x := Z (v + 1)) (y := Z (v + 2)) (z := Z (v + 3))
        rw [hA_] at pc_
        refine xk_call rfl (p := 713) rfl (by decide) rfl (Nat.le_of_ble_eq_true rfl) (Nat.le_of_ble_eq_true rfl) (xrv (ly_x L) (by decide)) (as := [(2, ((2 : Nat) : Int)), (0, Z (v + 1)), (0, Z (v + 2)), (0, Z (v + 3))]) (r := []) rfl (pc_) ?_
        rintro _ g v1 ⟨rfl, rfl, hB0, hB⟩
        refine xk_load rfl (p := 714) rfl rfl ?_
        refine xk_load rfl (p := 715) rfl rfl ?_
        refine xk_load rfl (p := 716) rfl rfl ?_
        refine xk_push rfl (p := 717) rfl ?_
        refine xk_bin rfl (p := 718) rfl (z := ((v + 1 : Nat) : Int)) (congrArg some (xadd_n (n := v) (m := 1) (by omega))) ?_
        refine xk_ald rfl (p := 719) rfl (v := (0, Z (v + 1))) ((xal0 hA0 (show v + 1 < N0 by omega)).trans (congrArg (fun z => some (0, z)) (hB0 (v + 1) (by omega)))) ?_
        refine xk_load rfl (p := 720) rfl rfl ?_
        refine xk_load rfl (p := 721) rfl rfl ?_
        refine xk_push rfl (p := 722) rfl ?_
        refine xk_bin rfl (p := 723) rfl (z := ((v + 2 : Nat) : Int)) (congrArg some (xadd_n (n := v) (m := 2) (by omega))) ?_
        refine xk_ald rfl (p := 724) rfl (v := (0, Z (v + 2))) ((xal0 hA0 (show v + 2 < N0 by omega)).trans (congrArg (fun z => some (0, z)) (hB0 (v + 2) (by omega)))) ?_
        refine xk_load rfl (p := 725) rfl rfl ?_
        refine xk_load rfl (p := 726) rfl rfl ?_
        refine xk_push rfl (p := 727) rfl ?_
        refine xk_bin rfl (p := 728) rfl (z := ((v + 3 : Nat) : Int)) (congrArg some (xadd_n (n := v) (m := 3) (by omega))) ?_
        refine xk_ald rfl (p := 729) rfl (v := (0, Z (v + 3))) ((xal0 hA0 (show v + 3 < N0 by omega)).trans (congrArg (fun z => some (0, z)) (hB0 (v + 3) (by omega)))) ?_
        refine xk_call rfl (p := 732) rfl (by decide) rfl (Nat.le_of_ble_eq_true rfl) (Nat.le_of_ble_eq_true rfl) (xrv (ly_m L) (by decide)) (as := [(2, ((292 : Nat) : Int)), (0, Z (v + 1)), (0, Z (v + 2)), (0, Z (v + 3))]) (r := [(0, A_)]) rfl (hB) ?_
        rintro _ g v2 ⟨rfl, rfl, w_, hW⟩
        refine xk_icmp rfl (p := 735) rfl (fun c732_40 => ?_) (fun c732_40 => ?_)
        · replace c732_40 : A_ = A_ := c732_40
          refine xk_iinc rfl (p := 1380) rfl (x := ((v : Nat) : Int)) rfl (ls' := [(2, ((0 : Nat) : Int)), (2, ((2 : Nat) : Int)), (2, ((292 : Nat) : Int)), (0, ((v + 6 : Nat) : Int))]) (by rw [show xadd ((v : Nat) : Int) 6 = ((v + 6 : Nat) : Int) from (xadd_r (by omega) (by omega)).trans (by omega)]; rfl) ?_
          refine xk_goto rfl ?_
          exact ih1 (by omega) (v + 6) w_ v2 (by exact hW) (by omega)
        · replace c732_40 : ¬ (A_ = A_) := c732_40
          exact absurd c732_40 (by exact fun h => h rfl)
      by_cases c33_41 : xand (Z v) 63 = 19
      · refine xk_switch rfl (w := 737) (by rw [c33_41]; rfl) ?_
        refine xk_load rfl (p := 738) rfl rfl ?_
        refine xk_load rfl (p := 739) rfl rfl ?_
        refine xk_load rfl (p := 740) rfl rfl ?_
        refine xk_push rfl (p := 741) rfl ?_
        refine xk_bin rfl (p := 742) rfl (z := ((v + 1 : Nat) : Int)) (congrArg some (xadd_n (n := v) (m := 1) (by omega))) ?_
        refine xk_ald rfl (p := 743) rfl (v := (0, Z (v + 1))) ((xal0 hA0 (show v + 1 < N0 by omega)).trans (congrArg (fun z => some (0, z)) (h1_1.a0 (v + 1) (by omega)))) ?_
        have pc_ := o_orders (x := Z (v + 1)) L h1_1 (hZ _)
        generalize y_orders m (Z (v + 1)) = A_ at pc_
        refine xk_call rfl (p := 746) rfl (by decide) rfl (Nat.le_of_ble_eq_true rfl) (Nat.le_of_ble_eq_true rfl) (xrv (ly_x L) (by decide)) (as := [(2, ((2 : Nat) : Int)), (0, Z (v + 1))]) (r := []) rfl (pc_) ?_
        rintro _ g v1 ⟨rfl, rfl, hB0, hB⟩
        refine xk_load rfl (p := 747) rfl rfl ?_
        refine xk_load rfl (p := 748) rfl rfl ?_
        refine xk_load rfl (p := 749) rfl rfl ?_
        refine xk_push rfl (p := 750) rfl ?_
        refine xk_bin rfl (p := 751) rfl (z := ((v + 1 : Nat) : Int)) (congrArg some (xadd_n (n := v) (m := 1) (by omega))) ?_
        refine xk_ald rfl (p := 752) rfl (v := (0, Z (v + 1))) ((xal0 hA0 (show v + 1 < N0 by omega)).trans (congrArg (fun z => some (0, z)) (hB0 (v + 1) (by omega)))) ?_
        refine xk_call rfl (p := 755) rfl (by decide) rfl (Nat.le_of_ble_eq_true rfl) (Nat.le_of_ble_eq_true rfl) (xrv (ly_m L) (by decide)) (as := [(2, ((292 : Nat) : Int)), (0, Z (v + 1))]) (r := [(0, A_)]) rfl (hB) ?_
        rintro _ g v2 ⟨rfl, rfl, w_, hW⟩
        refine xk_icmp rfl (p := 758) rfl (fun c755_42 => ?_) (fun c755_42 => ?_)
        · replace c755_42 : A_ = A_ := c755_42
          refine xk_iinc rfl (p := 1380) rfl (x := ((v : Nat) : Int)) rfl (ls' := [(2, ((0 : Nat) : Int)), (2, ((2 : Nat) : Int)), (2, ((292 : Nat) : Int)), (0, ((v + 6 : Nat) : Int))]) (by rw [show xadd ((v : Nat) : Int) 6 = ((v + 6 : Nat) : Int) from (xadd_r (by omega) (by omega)).trans (by omega)]; rfl) ?_
          refine xk_goto rfl ?_
          exact ih1 (by omega) (v + 6) w_ v2 (by exact hW) (by omega)
        · replace c755_42 : ¬ (A_ = A_) := c755_42
          exact absurd c755_42 (by exact fun h => h rfl)
      by_cases c33_43 : xand (Z v) 63 = 20
      · refine xk_switch rfl (w := 760) (by rw [c33_43]; rfl) ?_
        refine xk_load rfl (p := 761) rfl rfl ?_
        refine xk_load rfl (p := 762) rfl rfl ?_
        refine xk_load rfl (p := 763) rfl rfl ?_
        refine xk_push rfl (p := 764) rfl ?_
        refine xk_bin rfl (p := 765) rfl (z := ((v + 1 : Nat) : Int)) (congrArg some (xadd_n (n := v) (m := 1) (by omega))) ?_
        refine xk_ald rfl (p := 766) rfl (v := (0, Z (v + 1))) ((xal0 hA0 (show v + 1 < N0 by omega)).trans (congrArg (fun z => some (0, z)) (h1_1.a0 (v + 1) (by omega)))) ?_
        refine xk_load rfl (p := 767) rfl rfl ?_
        refine xk_load rfl (p := 768) rfl rfl ?_
        refine xk_push rfl (p := 769) rfl ?_
        refine xk_bin rfl (p := 770) rfl (z := ((v + 2 : Nat) : Int)) (congrArg some (xadd_n (n := v) (m := 2) (by omega))) ?_
        refine xk_ald rfl (p := 771) rfl (v := (0, Z (v + 2))) ((xal0 hA0 (show v + 2 < N0 by omega)).trans (congrArg (fun z => some (0, z)) (h1_1.a0 (v + 2) (by omega)))) ?_
        refine xk_load rfl (p := 772) rfl rfl ?_
        refine xk_load rfl (p := 773) rfl rfl ?_
        refine xk_push rfl (p := 774) rfl ?_
        refine xk_bin rfl (p := 775) rfl (z := ((v + 3 : Nat) : Int)) (congrArg some (xadd_n (n := v) (m := 3) (by omega))) ?_
        refine xk_ald rfl (p := 776) rfl (v := (0, Z (v + 3))) ((xal0 hA0 (show v + 3 < N0 by omega)).trans (congrArg (fun z => some (0, z)) (h1_1.a0 (v + 3) (by omega)))) ?_
        have pc_ := o_could (x := Z (v + 1)) (y := Z (v + 2)) (z := Z (v + 3)) L h1_1 (hZ _) (hZ _) (hZ _)
        generalize y_could m (Z (v + 1)) (Z (v + 2)) (Z (v + 3)) = A_ at pc_
        refine xk_call rfl (p := 779) rfl (by decide) rfl (Nat.le_of_ble_eq_true rfl) (Nat.le_of_ble_eq_true rfl) (xrv (ly_x L) (by decide)) (as := [(2, ((2 : Nat) : Int)), (0, Z (v + 1)), (0, Z (v + 2)), (0, Z (v + 3))]) (r := []) rfl (pc_) ?_
        rintro _ g v1 ⟨rfl, rfl, hB0, hB⟩
        refine xk_load rfl (p := 780) rfl rfl ?_
        refine xk_load rfl (p := 781) rfl rfl ?_
        refine xk_load rfl (p := 782) rfl rfl ?_
        refine xk_push rfl (p := 783) rfl ?_
        refine xk_bin rfl (p := 784) rfl (z := ((v + 1 : Nat) : Int)) (congrArg some (xadd_n (n := v) (m := 1) (by omega))) ?_
        refine xk_ald rfl (p := 785) rfl (v := (0, Z (v + 1))) ((xal0 hA0 (show v + 1 < N0 by omega)).trans (congrArg (fun z => some (0, z)) (hB0 (v + 1) (by omega)))) ?_
        refine xk_load rfl (p := 786) rfl rfl ?_
        refine xk_load rfl (p := 787) rfl rfl ?_
        refine xk_push rfl (p := 788) rfl ?_
        refine xk_bin rfl (p := 789) rfl (z := ((v + 2 : Nat) : Int)) (congrArg some (xadd_n (n := v) (m := 2) (by omega))) ?_
        refine xk_ald rfl (p := 790) rfl (v := (0, Z (v + 2))) ((xal0 hA0 (show v + 2 < N0 by omega)).trans (congrArg (fun z => some (0, z)) (hB0 (v + 2) (by omega)))) ?_
        refine xk_load rfl (p := 791) rfl rfl ?_
        refine xk_load rfl (p := 792) rfl rfl ?_
        refine xk_push rfl (p := 793) rfl ?_
        refine xk_bin rfl (p := 794) rfl (z := ((v + 3 : Nat) : Int)) (congrArg some (xadd_n (n := v) (m := 3) (by omega))) ?_
        refine xk_ald rfl (p := 795) rfl (v := (0, Z (v + 3))) ((xal0 hA0 (show v + 3 < N0 by omega)).trans (congrArg (fun z => some (0, z)) (hB0 (v + 3) (by omega)))) ?_
        refine xk_call rfl (p := 798) rfl (by decide) rfl (Nat.le_of_ble_eq_true rfl) (Nat.le_of_ble_eq_true rfl) (xrv (ly_m L) (by decide)) (as := [(2, ((292 : Nat) : Int)), (0, Z (v + 1)), (0, Z (v + 2)), (0, Z (v + 3))]) (r := [(0, A_)]) rfl (hB) ?_
        rintro _ g v2 ⟨rfl, rfl, w_, hW⟩
        refine xk_icmp rfl (p := 801) rfl (fun c798_44 => ?_) (fun c798_44 => ?_)
        · replace c798_44 : A_ = A_ := c798_44
          refine xk_iinc rfl (p := 1380) rfl (x := ((v : Nat) : Int)) rfl (ls' := [(2, ((0 : Nat) : Int)), (2, ((2 : Nat) : Int)), (2, ((292 : Nat) : Int)), (0, ((v + 6 : Nat) : Int))]) (by rw [show xadd ((v : Nat) : Int) 6 = ((v + 6 : Nat) : Int) from (xadd_r (by omega) (by omega)).trans (by omega)]; rfl) ?_
          refine xk_goto rfl ?_
          exact ih1 (by omega) (v + 6) w_ v2 (by exact hW) (by omega)
        · replace c798_44 : ¬ (A_ = A_) := c798_44
          exact absurd c798_44 (by exact fun h => h rfl)
      by_cases c33_45 : xand (Z v) 63 = 21
      · refine xk_switch rfl (w := 803) (by rw [c33_45]; rfl) ?_
        refine xk_load rfl (p := 804) rfl rfl ?_
        refine xk_load rfl (p := 805) rfl rfl ?_
        refine xk_load rfl (p := 806) rfl rfl ?_
        refine xk_push rfl (p := 807) rfl ?_
        refine xk_bin rfl (p := 808) rfl (z := ((v + 1 : Nat) : Int)) (congrArg some (xadd_n (n := v) (m := 1) (by omega))) ?_
        refine xk_ald rfl (p := 809) rfl (v := (0, Z (v + 1))) ((xal0 hA0 (show v + 1 < N0 by omega)).trans (congrArg (fun z => some (0, z)) (h1_1.a0 (v + 1) (by omega)))) ?_
        refine xk_load rfl (p := 810) rfl rfl ?_
        refine xk_load rfl (p := 811) rfl rfl ?_
        refine xk_push rfl (p := 812) rfl ?_
        refine xk_bin rfl (p := 813) rfl (z := ((v + 2 : Nat) : Int)) (congrArg some (xadd_n (n := v) (m := 2) (by omega))) ?_
        refine xk_ald rfl (p := 814) rfl (v := (0, Z (v + 2))) ((xal0 hA0 (show v + 2 < N0 by omega)).trans (congrArg (fun z => some (0, z)) (h1_1.a0 (v + 2) (by omega)))) ?_
        have pc_ := o_see (x := Z (v + 1)) (y := Z (v + 2)) L h1_1 (hZ _) (hZ _)
        obtain ⟨A_, hA_⟩ := y_see_some (m := m) (x := Z (v + 1)) (y := Z (v + 2))
        rw [hA_] at pc_
        refine xk_call rfl (p := 817) rfl (by decide) rfl (Nat.le_of_ble_eq_true rfl) (Nat.le_of_ble_eq_true rfl) (xrv (ly_x L) (by decide)) (as := [(2, ((2 : Nat) : Int)), (0, Z (v + 1)), (0, Z (v + 2))]) (r := []) rfl (pc_) ?_
        rintro _ g v1 ⟨rfl, rfl, hB0, hB⟩
        refine xk_load rfl (p := 818) rfl rfl ?_
        refine xk_load rfl (p := 819) rfl rfl ?_
        refine xk_load rfl (p := 820) rfl rfl ?_
        refine xk_push rfl (p := 821) rfl ?_
        refine xk_bin rfl (p := 822) rfl (z := ((v + 1 : Nat) : Int)) (congrArg some (xadd_n (n := v) (m := 1) (by omega))) ?_
        refine xk_ald rfl (p := 823) rfl (v := (0, Z (v + 1))) ((xal0 hA0 (show v + 1 < N0 by omega)).trans (congrArg (fun z => some (0, z)) (hB0 (v + 1) (by omega)))) ?_
        refine xk_load rfl (p := 824) rfl rfl ?_
        refine xk_load rfl (p := 825) rfl rfl ?_
        refine xk_push rfl (p := 826) rfl ?_
        refine xk_bin rfl (p := 827) rfl (z := ((v + 2 : Nat) : Int)) (congrArg some (xadd_n (n := v) (m := 2) (by omega))) ?_
        refine xk_ald rfl (p := 828) rfl (v := (0, Z (v + 2))) ((xal0 hA0 (show v + 2 < N0 by omega)).trans (congrArg (fun z => some (0, z)) (hB0 (v + 2) (by omega)))) ?_
        refine xk_call rfl (p := 831) rfl (by decide) rfl (Nat.le_of_ble_eq_true rfl) (Nat.le_of_ble_eq_true rfl) (xrv (ly_m L) (by decide)) (as := [(2, ((292 : Nat) : Int)), (0, Z (v + 1)), (0, Z (v + 2))]) (r := [(0, A_)]) rfl (hB) ?_
        rintro _ g v2 ⟨rfl, rfl, w_, hW⟩
        refine xk_icmp rfl (p := 834) rfl (fun c831_46 => ?_) (fun c831_46 => ?_)
        · replace c831_46 : A_ = A_ := c831_46
          refine xk_iinc rfl (p := 1380) rfl (x := ((v : Nat) : Int)) rfl (ls' := [(2, ((0 : Nat) : Int)), (2, ((2 : Nat) : Int)), (2, ((292 : Nat) : Int)), (0, ((v + 6 : Nat) : Int))]) (by rw [show xadd ((v : Nat) : Int) 6 = ((v + 6 : Nat) : Int) from (xadd_r (by omega) (by omega)).trans (by omega)]; rfl) ?_
          refine xk_goto rfl ?_
          exact ih1 (by omega) (v + 6) w_ v2 (by exact hW) (by omega)
        · replace c831_46 : ¬ (A_ = A_) := c831_46
          exact absurd c831_46 (by exact fun h => h rfl)
      by_cases c33_47 : xand (Z v) 63 = 22
      · refine xk_switch rfl (w := 836) (by rw [c33_47]; rfl) ?_
        refine xk_load rfl (p := 837) rfl rfl ?_
        refine xk_load rfl (p := 838) rfl rfl ?_
        refine xk_load rfl (p := 839) rfl rfl ?_
        refine xk_push rfl (p := 840) rfl ?_
        refine xk_bin rfl (p := 841) rfl (z := ((v + 1 : Nat) : Int)) (congrArg some (xadd_n (n := v) (m := 1) (by omega))) ?_
        refine xk_ald rfl (p := 842) rfl (v := (0, Z (v + 1))) ((xal0 hA0 (show v + 1 < N0 by omega)).trans (congrArg (fun z => some (0, z)) (h1_1.a0 (v + 1) (by omega)))) ?_
        refine xk_load rfl (p := 843) rfl rfl ?_
        refine xk_load rfl (p := 844) rfl rfl ?_
        refine xk_push rfl (p := 845) rfl ?_
        refine xk_bin rfl (p := 846) rfl (z := ((v + 2 : Nat) : Int)) (congrArg some (xadd_n (n := v) (m := 2) (by omega))) ?_
        refine xk_ald rfl (p := 847) rfl (v := (0, Z (v + 2))) ((xal0 hA0 (show v + 2 < N0 by omega)).trans (congrArg (fun z => some (0, z)) (h1_1.a0 (v + 2) (by omega)))) ?_
        have pc_ := o_fits (x := Z (v + 1)) (y := Z (v + 2)) L h1_1 (hZ _) (hZ _)
        generalize y_fits m (Z (v + 1)) (Z (v + 2)) = A_ at pc_
        refine xk_call rfl (p := 850) rfl (by decide) rfl (Nat.le_of_ble_eq_true rfl) (Nat.le_of_ble_eq_true rfl) (xrv (ly_x L) (by decide)) (as := [(2, ((2 : Nat) : Int)), (0, Z (v + 1)), (0, Z (v + 2))]) (r := []) rfl (pc_) ?_
        rintro _ g v1 ⟨rfl, rfl, hB0, hB⟩
        refine xk_load rfl (p := 851) rfl rfl ?_
        refine xk_load rfl (p := 852) rfl rfl ?_
        refine xk_load rfl (p := 853) rfl rfl ?_
        refine xk_push rfl (p := 854) rfl ?_
        refine xk_bin rfl (p := 855) rfl (z := ((v + 1 : Nat) : Int)) (congrArg some (xadd_n (n := v) (m := 1) (by omega))) ?_
        refine xk_ald rfl (p := 856) rfl (v := (0, Z (v + 1))) ((xal0 hA0 (show v + 1 < N0 by omega)).trans (congrArg (fun z => some (0, z)) (hB0 (v + 1) (by omega)))) ?_
        refine xk_load rfl (p := 857) rfl rfl ?_
        refine xk_load rfl (p := 858) rfl rfl ?_
        refine xk_push rfl (p := 859) rfl ?_
        refine xk_bin rfl (p := 860) rfl (z := ((v + 2 : Nat) : Int)) (congrArg some (xadd_n (n := v) (m := 2) (by omega))) ?_
        refine xk_ald rfl (p := 861) rfl (v := (0, Z (v + 2))) ((xal0 hA0 (show v + 2 < N0 by omega)).trans (congrArg (fun z => some (0, z)) (hB0 (v + 2) (by omega)))) ?_
        refine xk_call rfl (p := 864) rfl (by decide) rfl (Nat.le_of_ble_eq_true rfl) (Nat.le_of_ble_eq_true rfl) (xrv (ly_m L) (by decide)) (as := [(2, ((292 : Nat) : Int)), (0, Z (v + 1)), (0, Z (v + 2))]) (r := [(0, A_)]) rfl (hB) ?_
        rintro _ g v2 ⟨rfl, rfl, w_, hW⟩
        refine xk_icmp rfl (p := 867) rfl (fun c864_48 => ?_) (fun c864_48 => ?_)
        · replace c864_48 : A_ = A_ := c864_48
          refine xk_iinc rfl (p := 1380) rfl (x := ((v : Nat) : Int)) rfl (ls' := [(2, ((0 : Nat) : Int)), (2, ((2 : Nat) : Int)), (2, ((292 : Nat) : Int)), (0, ((v + 6 : Nat) : Int))]) (by rw [show xadd ((v : Nat) : Int) 6 = ((v + 6 : Nat) : Int) from (xadd_r (by omega) (by omega)).trans (by omega)]; rfl) ?_
          refine xk_goto rfl ?_
          exact ih1 (by omega) (v + 6) w_ v2 (by exact hW) (by omega)
        · replace c864_48 : ¬ (A_ = A_) := c864_48
          exact absurd c864_48 (by exact fun h => h rfl)
      by_cases c33_49 : xand (Z v) 63 = 23
      · refine xk_switch rfl (w := 869) (by rw [c33_49]; rfl) ?_
        refine xk_load rfl (p := 870) rfl rfl ?_
        refine xk_load rfl (p := 871) rfl rfl ?_
        refine xk_load rfl (p := 872) rfl rfl ?_
        refine xk_push rfl (p := 873) rfl ?_
        refine xk_bin rfl (p := 874) rfl (z := ((v + 1 : Nat) : Int)) (congrArg some (xadd_n (n := v) (m := 1) (by omega))) ?_
        refine xk_ald rfl (p := 875) rfl (v := (0, Z (v + 1))) ((xal0 hA0 (show v + 1 < N0 by omega)).trans (congrArg (fun z => some (0, z)) (h1_1.a0 (v + 1) (by omega)))) ?_
        refine xk_load rfl (p := 876) rfl rfl ?_
        refine xk_load rfl (p := 877) rfl rfl ?_
        refine xk_push rfl (p := 878) rfl ?_
        refine xk_bin rfl (p := 879) rfl (z := ((v + 2 : Nat) : Int)) (congrArg some (xadd_n (n := v) (m := 2) (by omega))) ?_
        refine xk_ald rfl (p := 880) rfl (v := (0, Z (v + 2))) ((xal0 hA0 (show v + 2 < N0 by omega)).trans (congrArg (fun z => some (0, z)) (h1_1.a0 (v + 2) (by omega)))) ?_
        refine xk_load rfl (p := 881) rfl rfl ?_
        refine xk_load rfl (p := 882) rfl rfl ?_
        refine xk_push rfl (p := 883) rfl ?_
        refine xk_bin rfl (p := 884) rfl (z := ((v + 3 : Nat) : Int)) (congrArg some (xadd_n (n := v) (m := 3) (by omega))) ?_
        refine xk_ald rfl (p := 885) rfl (v := (0, Z (v + 3))) ((xal0 hA0 (show v + 3 < N0 by omega)).trans (congrArg (fun z => some (0, z)) (h1_1.a0 (v + 3) (by omega)))) ?_
        refine xk_load rfl (p := 886) rfl rfl ?_
        refine xk_load rfl (p := 887) rfl rfl ?_
        refine xk_push rfl (p := 888) rfl ?_
        refine xk_bin rfl (p := 889) rfl (z := ((v + 4 : Nat) : Int)) (congrArg some (xadd_n (n := v) (m := 4) (by omega))) ?_
        refine xk_ald rfl (p := 890) rfl (v := (0, Z (v + 4))) ((xal0 hA0 (show v + 4 < N0 by omega)).trans (congrArg (fun z => some (0, z)) (h1_1.a0 (v + 4) (by omega)))) ?_
        have pc_ := o_odds (x := Z (v + 1)) (y := Z (v + 2)) (z := Z (v + 3)) (w := Z (v + 4)) L h1_1 (hZ _) (hZ _) (hZ _) (hZ _)
        generalize y_odds m (Z (v + 1)) (Z (v + 2)) (Z (v + 3)) (Z (v + 4)) = A_ at pc_
        refine xk_call rfl (p := 893) rfl (by decide) rfl (Nat.le_of_ble_eq_true rfl) (Nat.le_of_ble_eq_true rfl) (xrv (ly_x L) (by decide)) (as := [(2, ((2 : Nat) : Int)), (0, Z (v + 1)), (0, Z (v + 2)), (0, Z (v + 3)), (0, Z (v + 4))]) (r := []) rfl (pc_) ?_
        rintro _ g v1 ⟨rfl, rfl, hB0, hB⟩
        refine xk_load rfl (p := 894) rfl rfl ?_
        refine xk_load rfl (p := 895) rfl rfl ?_
        refine xk_load rfl (p := 896) rfl rfl ?_
        refine xk_push rfl (p := 897) rfl ?_
        refine xk_bin rfl (p := 898) rfl (z := ((v + 1 : Nat) : Int)) (congrArg some (xadd_n (n := v) (m := 1) (by omega))) ?_
        refine xk_ald rfl (p := 899) rfl (v := (0, Z (v + 1))) ((xal0 hA0 (show v + 1 < N0 by omega)).trans (congrArg (fun z => some (0, z)) (hB0 (v + 1) (by omega)))) ?_
        refine xk_load rfl (p := 900) rfl rfl ?_
        refine xk_load rfl (p := 901) rfl rfl ?_
        refine xk_push rfl (p := 902) rfl ?_
        refine xk_bin rfl (p := 903) rfl (z := ((v + 2 : Nat) : Int)) (congrArg some (xadd_n (n := v) (m := 2) (by omega))) ?_
        refine xk_ald rfl (p := 904) rfl (v := (0, Z (v + 2))) ((xal0 hA0 (show v + 2 < N0 by omega)).trans (congrArg (fun z => some (0, z)) (hB0 (v + 2) (by omega)))) ?_
        refine xk_load rfl (p := 905) rfl rfl ?_
        refine xk_load rfl (p := 906) rfl rfl ?_
        refine xk_push rfl (p := 907) rfl ?_
        refine xk_bin rfl (p := 908) rfl (z := ((v + 3 : Nat) : Int)) (congrArg some (xadd_n (n := v) (m := 3) (by omega))) ?_
        refine xk_ald rfl (p := 909) rfl (v := (0, Z (v + 3))) ((xal0 hA0 (show v + 3 < N0 by omega)).trans (congrArg (fun z => some (0, z)) (hB0 (v + 3) (by omega)))) ?_
        refine xk_load rfl (p := 910) rfl rfl ?_
        refine xk_load rfl (p := 911) rfl rfl ?_
        refine xk_push rfl (p := 912) rfl ?_
        refine xk_bin rfl (p := 913) rfl (z := ((v + 4 : Nat) : Int)) (congrArg some (xadd_n (n := v) (m := 4) (by omega))) ?_
        refine xk_ald rfl (p := 914) rfl (v := (0, Z (v + 4))) ((xal0 hA0 (show v + 4 < N0 by omega)).trans (congrArg (fun z => some (0, z)) (hB0 (v + 4) (by omega)))) ?_
        refine xk_call rfl (p := 917) rfl (by decide) rfl (Nat.le_of_ble_eq_true rfl) (Nat.le_of_ble_eq_true rfl) (xrv (ly_m L) (by decide)) (as := [(2, ((292 : Nat) : Int)), (0, Z (v + 1)), (0, Z (v + 2)), (0, Z (v + 3)), (0, Z (v + 4))]) (r := [(1, A_)]) rfl (hB) ?_
        rintro _ g v2 ⟨rfl, rfl, w_, hW⟩
        refine xk_lbin rfl (p := 918) rfl rfl (w := (0, xlcmp A_ A_)) (rfl) ?_
        refine xk_if rfl (p := 921) rfl (fun c918_50 => ?_) (fun c918_50 => ?_)
        · replace c918_50 : xlcmp A_ A_ = 0 := c918_50
          refine xk_iinc rfl (p := 1380) rfl (x := ((v : Nat) : Int)) rfl (ls' := [(2, ((0 : Nat) : Int)), (2, ((2 : Nat) : Int)), (2, ((292 : Nat) : Int)), (0, ((v + 6 : Nat) : Int))]) (by rw [show xadd ((v : Nat) : Int) 6 = ((v + 6 : Nat) : Int) from (xadd_r (by omega) (by omega)).trans (by omega)]; rfl) ?_
          refine xk_goto rfl ?_
          exact ih1 (by omega) (v + 6) w_ v2 (by exact hW) (by omega)
        · replace c918_50 : ¬ (xlcmp A_ A_ = 0) := c918_50
          exact absurd c918_50 (by exact fun h => h (xlcmp_c.2.2.mpr rfl))
      by_cases c33_51 : xand (Z v) 63 = 24
      · refine xk_switch rfl (w := 923) (by rw [c33_51]; rfl) ?_
        refine xk_load rfl (p := 924) rfl rfl ?_
        refine xk_load rfl (p := 925) rfl rfl ?_
        refine xk_load rfl (p := 926) rfl rfl ?_
        refine xk_push rfl (p := 927) rfl ?_
        refine xk_bin rfl (p := 928) rfl (z := ((v + 1 : Nat) : Int)) (congrArg some (xadd_n (n := v) (m := 1) (by omega))) ?_
        refine xk_ald rfl (p := 929) rfl (v := (0, Z (v + 1))) ((xal0 hA0 (show v + 1 < N0 by omega)).trans (congrArg (fun z => some (0, z)) (h1_1.a0 (v + 1) (by omega)))) ?_
        have pc_ := o_mean (w := Z (v + 1)) L h1_1 (hZ _)
        generalize y_mean m (Z (v + 1)) = A_ at pc_
        refine xk_call rfl (p := 932) rfl (by decide) rfl (Nat.le_of_ble_eq_true rfl) (Nat.le_of_ble_eq_true rfl) (xrv (ly_x L) (by decide)) (as := [(2, ((2 : Nat) : Int)), (0, Z (v + 1))]) (r := []) rfl (pc_) ?_
        rintro _ g v1 ⟨rfl, rfl, hB0, hB⟩
        refine xk_load rfl (p := 933) rfl rfl ?_
        refine xk_load rfl (p := 934) rfl rfl ?_
        refine xk_load rfl (p := 935) rfl rfl ?_
        refine xk_push rfl (p := 936) rfl ?_
        refine xk_bin rfl (p := 937) rfl (z := ((v + 1 : Nat) : Int)) (congrArg some (xadd_n (n := v) (m := 1) (by omega))) ?_
        refine xk_ald rfl (p := 938) rfl (v := (0, Z (v + 1))) ((xal0 hA0 (show v + 1 < N0 by omega)).trans (congrArg (fun z => some (0, z)) (hB0 (v + 1) (by omega)))) ?_
        refine xk_call rfl (p := 941) rfl (by decide) rfl (Nat.le_of_ble_eq_true rfl) (Nat.le_of_ble_eq_true rfl) (xrv (ly_m L) (by decide)) (as := [(2, ((292 : Nat) : Int)), (0, Z (v + 1))]) (r := [(1, A_)]) rfl (hB) ?_
        rintro _ g v2 ⟨rfl, rfl, w_, hW⟩
        refine xk_lbin rfl (p := 942) rfl rfl (w := (0, xlcmp A_ A_)) (rfl) ?_
        refine xk_if rfl (p := 945) rfl (fun c942_52 => ?_) (fun c942_52 => ?_)
        · replace c942_52 : xlcmp A_ A_ = 0 := c942_52
          refine xk_iinc rfl (p := 1380) rfl (x := ((v : Nat) : Int)) rfl (ls' := [(2, ((0 : Nat) : Int)), (2, ((2 : Nat) : Int)), (2, ((292 : Nat) : Int)), (0, ((v + 6 : Nat) : Int))]) (by rw [show xadd ((v : Nat) : Int) 6 = ((v + 6 : Nat) : Int) from (xadd_r (by omega) (by omega)).trans (by omega)]; rfl) ?_
          refine xk_goto rfl ?_
          exact ih1 (by omega) (v + 6) w_ v2 (by exact hW) (by omega)
        · replace c942_52 : ¬ (xlcmp A_ A_ = 0) := c942_52
          exact absurd c942_52 (by exact fun h => h (xlcmp_c.2.2.mpr rfl))
      by_cases c33_53 : xand (Z v) 63 = 25
      · refine xk_switch rfl (w := 947) (by rw [c33_53]; rfl) ?_
        refine xk_load rfl (p := 948) rfl rfl ?_
        refine xk_load rfl (p := 949) rfl rfl ?_
        refine xk_load rfl (p := 950) rfl rfl ?_
        refine xk_push rfl (p := 951) rfl ?_
        refine xk_bin rfl (p := 952) rfl (z := ((v + 1 : Nat) : Int)) (congrArg some (xadd_n (n := v) (m := 1) (by omega))) ?_
        refine xk_ald rfl (p := 953) rfl (v := (0, Z (v + 1))) ((xal0 hA0 (show v + 1 < N0 by omega)).trans (congrArg (fun z => some (0, z)) (h1_1.a0 (v + 1) (by omega)))) ?_
        refine xk_load rfl (p := 954) rfl rfl ?_
        refine xk_load rfl (p := 955) rfl rfl ?_
        refine xk_push rfl (p := 956) rfl ?_
        refine xk_bin rfl (p := 957) rfl (z := ((v + 2 : Nat) : Int)) (congrArg some (xadd_n (n := v) (m := 2) (by omega))) ?_
        refine xk_ald rfl (p := 958) rfl (v := (0, Z (v + 2))) ((xal0 hA0 (show v + 2 < N0 by omega)).trans (congrArg (fun z => some (0, z)) (h1_1.a0 (v + 2) (by omega)))) ?_
        have pc_ := o_plan (x := Z (v + 1)) (y := Z (v + 2)) L h1_1 (hZ _) (hZ _)
        obtain ⟨A_, hA_⟩ := y_plan_some (m := m) (x := Z (v + 1)) (y := Z (v + 2))
        rw [hA_] at pc_
        refine xk_call rfl (p := 961) rfl (by decide) rfl (Nat.le_of_ble_eq_true rfl) (Nat.le_of_ble_eq_true rfl) (xrv (ly_x L) (by decide)) (as := [(2, ((2 : Nat) : Int)), (0, Z (v + 1)), (0, Z (v + 2))]) (r := []) rfl (pc_) ?_
        rintro _ g v1 ⟨rfl, rfl, hB0, hB⟩
        refine xk_load rfl (p := 962) rfl rfl ?_
        refine xk_load rfl (p := 963) rfl rfl ?_
        refine xk_load rfl (p := 964) rfl rfl ?_
        refine xk_push rfl (p := 965) rfl ?_
        refine xk_bin rfl (p := 966) rfl (z := ((v + 1 : Nat) : Int)) (congrArg some (xadd_n (n := v) (m := 1) (by omega))) ?_
        refine xk_ald rfl (p := 967) rfl (v := (0, Z (v + 1))) ((xal0 hA0 (show v + 1 < N0 by omega)).trans (congrArg (fun z => some (0, z)) (hB0 (v + 1) (by omega)))) ?_
        refine xk_load rfl (p := 968) rfl rfl ?_
        refine xk_load rfl (p := 969) rfl rfl ?_
        refine xk_push rfl (p := 970) rfl ?_
        refine xk_bin rfl (p := 971) rfl (z := ((v + 2 : Nat) : Int)) (congrArg some (xadd_n (n := v) (m := 2) (by omega))) ?_
        refine xk_ald rfl (p := 972) rfl (v := (0, Z (v + 2))) ((xal0 hA0 (show v + 2 < N0 by omega)).trans (congrArg (fun z => some (0, z)) (hB0 (v + 2) (by omega)))) ?_
        refine xk_call rfl (p := 975) rfl (by decide) rfl (Nat.le_of_ble_eq_true rfl) (Nat.le_of_ble_eq_true rfl) (xrv (ly_m L) (by decide)) (as := [(2, ((292 : Nat) : Int)), (0, Z (v + 1)), (0, Z (v + 2))]) (r := [(0, A_)]) rfl (hB) ?_
        rintro _ g v2 ⟨rfl, rfl, w_, hW⟩
        refine xk_icmp rfl (p := 978) rfl (fun c975_54 => ?_) (fun c975_54 => ?_)
        · replace c975_54 : A_ = A_ := c975_54
          refine xk_iinc rfl (p := 1380) rfl (x := ((v : Nat) : Int)) rfl (ls' := [(2, ((0 : Nat) : Int)), (2, ((2 : Nat) : Int)), (2, ((292 : Nat) : Int)), (0, ((v + 6 : Nat) : Int))]) (by rw [show xadd ((v : Nat) : Int) 6 = ((v + 6 : Nat) : Int) from (xadd_r (by omega) (by omega)).trans (by omega)]; rfl) ?_
          refine xk_goto rfl ?_
          exact ih1 (by omega) (v + 6) w_ v2 (by exact hW) (by omega)
        · replace c975_54 : ¬ (A_ = A_) := c975_54
          exact absurd c975_54 (by exact fun h => h rfl)
      by_cases c33_55 : xand (Z v) 63 = 26
      · refine xk_switch rfl (w := 980) (by rw [c33_55]; rfl) ?_
        refine xk_load rfl (p := 981) rfl rfl ?_
        refine xk_load rfl (p := 982) rfl rfl ?_
        refine xk_load rfl (p := 983) rfl rfl ?_
        refine xk_push rfl (p := 984) rfl ?_
        refine xk_bin rfl (p := 985) rfl (z := ((v + 1 : Nat) : Int)) (congrArg some (xadd_n (n := v) (m := 1) (by omega))) ?_
        refine xk_ald rfl (p := 986) rfl (v := (0, Z (v + 1))) ((xal0 hA0 (show v + 1 < N0 by omega)).trans (congrArg (fun z => some (0, z)) (h1_1.a0 (v + 1) (by omega)))) ?_
        have pc_ := o_ends (x := Z (v + 1)) L h1_1 (hZ _)
        obtain ⟨A_, hA_⟩ := y_ends_some (m := m) (x := Z (v + 1))
        rw [hA_] at pc_
        refine xk_call rfl (p := 989) rfl (by decide) rfl (Nat.le_of_ble_eq_true rfl) (Nat.le_of_ble_eq_true rfl) (xrv (ly_x L) (by decide)) (as := [(2, ((2 : Nat) : Int)), (0, Z (v + 1))]) (r := []) rfl (pc_) ?_
        rintro _ g v1 ⟨rfl, rfl, hB0, hB⟩
        refine xk_load rfl (p := 990) rfl rfl ?_
        refine xk_load rfl (p := 991) rfl rfl ?_
        refine xk_load rfl (p := 992) rfl rfl ?_
        refine xk_push rfl (p := 993) rfl ?_
        refine xk_bin rfl (p := 994) rfl (z := ((v + 1 : Nat) : Int)) (congrArg some (xadd_n (n := v) (m := 1) (by omega))) ?_
        refine xk_ald rfl (p := 995) rfl (v := (0, Z (v + 1))) ((xal0 hA0 (show v + 1 < N0 by omega)).trans (congrArg (fun z => some (0, z)) (hB0 (v + 1) (by omega)))) ?_
        refine xk_call rfl (p := 998) rfl (by decide) rfl (Nat.le_of_ble_eq_true rfl) (Nat.le_of_ble_eq_true rfl) (xrv (ly_m L) (by decide)) (as := [(2, ((292 : Nat) : Int)), (0, Z (v + 1))]) (r := [(0, A_)]) rfl (hB) ?_
        rintro _ g v2 ⟨rfl, rfl, w_, hW⟩
        refine xk_icmp rfl (p := 1001) rfl (fun c998_56 => ?_) (fun c998_56 => ?_)
        · replace c998_56 : A_ = A_ := c998_56
          refine xk_iinc rfl (p := 1380) rfl (x := ((v : Nat) : Int)) rfl (ls' := [(2, ((0 : Nat) : Int)), (2, ((2 : Nat) : Int)), (2, ((292 : Nat) : Int)), (0, ((v + 6 : Nat) : Int))]) (by rw [show xadd ((v : Nat) : Int) 6 = ((v + 6 : Nat) : Int) from (xadd_r (by omega) (by omega)).trans (by omega)]; rfl) ?_
          refine xk_goto rfl ?_
          exact ih1 (by omega) (v + 6) w_ v2 (by exact hW) (by omega)
        · replace c998_56 : ¬ (A_ = A_) := c998_56
          exact absurd c998_56 (by exact fun h => h rfl)
      by_cases c33_57 : xand (Z v) 63 = 27
      · refine xk_switch rfl (w := 1003) (by rw [c33_57]; rfl) ?_
        refine xk_load rfl (p := 1004) rfl rfl ?_
        refine xk_load rfl (p := 1005) rfl rfl ?_
        refine xk_load rfl (p := 1006) rfl rfl ?_
        refine xk_push rfl (p := 1007) rfl ?_
        refine xk_bin rfl (p := 1008) rfl (z := ((v + 1 : Nat) : Int)) (congrArg some (xadd_n (n := v) (m := 1) (by omega))) ?_
        refine xk_ald rfl (p := 1009) rfl (v := (0, Z (v + 1))) ((xal0 hA0 (show v + 1 < N0 by omega)).trans (congrArg (fun z => some (0, z)) (h1_1.a0 (v + 1) (by omega)))) ?_
        refine xk_load rfl (p := 1010) rfl rfl ?_
        refine xk_load rfl (p := 1011) rfl rfl ?_
        refine xk_push rfl (p := 1012) rfl ?_
        refine xk_bin rfl (p := 1013) rfl (z := ((v + 2 : Nat) : Int)) (congrArg some (xadd_n (n := v) (m := 2) (by omega))) ?_
        refine xk_ald rfl (p := 1014) rfl (v := (0, Z (v + 2))) ((xal0 hA0 (show v + 2 < N0 by omega)).trans (congrArg (fun z => some (0, z)) (h1_1.a0 (v + 2) (by omega)))) ?_
        have pc_ := o_book (x := Z (v + 1)) (y := Z (v + 2)) L h1_1 (hZ _) (hZ _)
        obtain ⟨A_, hA_⟩ := y_book_some (m := m) (x := Z (v + 1)) (y := Z (v + 2))
        rw [hA_] at pc_
        refine xk_call rfl (p := 1017) rfl (by decide) rfl (Nat.le_of_ble_eq_true rfl) (Nat.le_of_ble_eq_true rfl) (xrv (ly_x L) (by decide)) (as := [(2, ((2 : Nat) : Int)), (0, Z (v + 1)), (0, Z (v + 2))]) (r := []) rfl (pc_) ?_
        rintro _ g v1 ⟨rfl, rfl, hB0, hB⟩
        refine xk_load rfl (p := 1018) rfl rfl ?_
        refine xk_load rfl (p := 1019) rfl rfl ?_
        refine xk_load rfl (p := 1020) rfl rfl ?_
        refine xk_push rfl (p := 1021) rfl ?_
        refine xk_bin rfl (p := 1022) rfl (z := ((v + 1 : Nat) : Int)) (congrArg some (xadd_n (n := v) (m := 1) (by omega))) ?_
        refine xk_ald rfl (p := 1023) rfl (v := (0, Z (v + 1))) ((xal0 hA0 (show v + 1 < N0 by omega)).trans (congrArg (fun z => some (0, z)) (hB0 (v + 1) (by omega)))) ?_
        refine xk_load rfl (p := 1024) rfl rfl ?_
        refine xk_load rfl (p := 1025) rfl rfl ?_
        refine xk_push rfl (p := 1026) rfl ?_
        refine xk_bin rfl (p := 1027) rfl (z := ((v + 2 : Nat) : Int)) (congrArg some (xadd_n (n := v) (m := 2) (by omega))) ?_
        refine xk_ald rfl (p := 1028) rfl (v := (0, Z (v + 2))) ((xal0 hA0 (show v + 2 < N0 by omega)).trans (congrArg (fun z => some (0, z)) (hB0 (v + 2) (by omega)))) ?_
        refine xk_call rfl (p := 1031) rfl (by decide) rfl (Nat.le_of_ble_eq_true rfl) (Nat.le_of_ble_eq_true rfl) (xrv (ly_m L) (by decide)) (as := [(2, ((292 : Nat) : Int)), (0, Z (v + 1)), (0, Z (v + 2))]) (r := [(0, A_)]) rfl (hB) ?_
        rintro _ g v2 ⟨rfl, rfl, w_, hW⟩
        refine xk_icmp rfl (p := 1034) rfl (fun c1031_58 => ?_) (fun c1031_58 => ?_)
        · replace c1031_58 : A_ = A_ := c1031_58
          refine xk_iinc rfl (p := 1380) rfl (x := ((v : Nat) : Int)) rfl (ls' := [(2, ((0 : Nat) : Int)), (2, ((2 : Nat) : Int)), (2, ((292 : Nat) : Int)), (0, ((v + 6 : Nat) : Int))]) (by rw [show xadd ((v : Nat) : Int) 6 = ((v + 6 : Nat) : Int) from (xadd_r (by omega) (by omega)).trans (by omega)]; rfl) ?_
          refine xk_goto rfl ?_
          exact ih1 (by omega) (v + 6) w_ v2 (by exact hW) (by omega)
        · replace c1031_58 : ¬ (A_ = A_) := c1031_58
          exact absurd c1031_58 (by exact fun h => h rfl)
      by_cases c33_59 : xand (Z v) 63 = 28
      · refine xk_switch rfl (w := 1036) (by rw [c33_59]; rfl) ?_
        refine xk_load rfl (p := 1037) rfl rfl ?_
        have pc_ := o_looked L h1_1
        generalize y_looked m = A_ at pc_
        refine xk_call rfl (p := 1040) rfl (by decide) rfl (Nat.le_of_ble_eq_true rfl) (Nat.le_of_ble_eq_true rfl) (xrv (ly_x L) (by decide)) (as := [(2, ((2 : Nat) : Int))]) (r := []) rfl (pc_) ?_
        rintro _ g v1 ⟨rfl, rfl, hB0, hB⟩
        refine xk_load rfl (p := 1041) rfl rfl ?_
        refine xk_call rfl (p := 1044) rfl (by decide) rfl (Nat.le_of_ble_eq_true rfl) (Nat.le_of_ble_eq_true rfl) (xrv (ly_m L) (by decide)) (as := [(2, ((292 : Nat) : Int))]) (r := [(0, A_)]) rfl (hB) ?_
        rintro _ g v2 ⟨rfl, rfl, w_, hW⟩
        refine xk_icmp rfl (p := 1047) rfl (fun c1044_60 => ?_) (fun c1044_60 => ?_)
        · replace c1044_60 : A_ = A_ := c1044_60
          refine xk_iinc rfl (p := 1380) rfl (x := ((v : Nat) : Int)) rfl (ls' := [(2, ((0 : Nat) : Int)), (2, ((2 : Nat) : Int)), (2, ((292 : Nat) : Int)), (0, ((v + 6 : Nat) : Int))]) (by rw [show xadd ((v : Nat) : Int) 6 = ((v + 6 : Nat) : Int) from (xadd_r (by omega) (by omega)).trans (by omega)]; rfl) ?_
          refine xk_goto rfl ?_
          exact ih1 (by omega) (v + 6) w_ v2 (by exact hW) (by omega)
        · replace c1044_60 : ¬ (A_ = A_) := c1044_60
          exact absurd c1044_60 (by exact fun h => h rfl)
      by_cases c33_61 : xand (Z v) 63 = 29
      · refine xk_switch rfl (w := 1049) (by rw [c33_61]; rfl) ?_
        refine xk_load rfl (p := 1050) rfl rfl ?_
        refine xk_load rfl (p := 1051) rfl rfl ?_
        refine xk_load rfl (p := 1052) rfl rfl ?_
        refine xk_push rfl (p := 1053) rfl ?_
        refine xk_bin rfl (p := 1054) rfl (z := ((v + 1 : Nat) : Int)) (congrArg some (xadd_n (n := v) (m := 1) (by omega))) ?_
        refine xk_ald rfl (p := 1055) rfl (v := (0, Z (v + 1))) ((xal0 hA0 (show v + 1 < N0 by omega)).trans (congrArg (fun z => some (0, z)) (h1_1.a0 (v + 1) (by omega)))) ?_
        refine xk_load rfl (p := 1056) rfl rfl ?_
        refine xk_load rfl (p := 1057) rfl rfl ?_
        refine xk_push rfl (p := 1058) rfl ?_
        refine xk_bin rfl (p := 1059) rfl (z := ((v + 2 : Nat) : Int)) (congrArg some (xadd_n (n := v) (m := 2) (by omega))) ?_
        refine xk_ald rfl (p := 1060) rfl (v := (0, Z (v + 2))) ((xal0 hA0 (show v + 2 < N0 by omega)).trans (congrArg (fun z => some (0, z)) (h1_1.a0 (v + 2) (by omega)))) ?_
        have pc_ := o_judge (x := Z (v + 1)) (y := Z (v + 2)) L h1_1 (hZ _) (hZ _)
        generalize y_judge m (Z (v + 1)) (Z (v + 2)) = A_ at pc_
        refine xk_call rfl (p := 1063) rfl (by decide) rfl (Nat.le_of_ble_eq_true rfl) (Nat.le_of_ble_eq_true rfl) (xrv (ly_x L) (by decide)) (as := [(2, ((2 : Nat) : Int)), (0, Z (v + 1)), (0, Z (v + 2))]) (r := []) rfl (pc_) ?_
        rintro _ g v1 ⟨rfl, rfl, hB0, hB⟩
        refine xk_load rfl (p := 1064) rfl rfl ?_
        refine xk_load rfl (p := 1065) rfl rfl ?_
        refine xk_load rfl (p := 1066) rfl rfl ?_
        refine xk_push rfl (p := 1067) rfl ?_
        refine xk_bin rfl (p := 1068) rfl (z := ((v + 1 : Nat) : Int)) (congrArg some (xadd_n (n := v) (m := 1) (by omega))) ?_
        refine xk_ald rfl (p := 1069) rfl (v := (0, Z (v + 1))) ((xal0 hA0 (show v + 1 < N0 by omega)).trans (congrArg (fun z => some (0, z)) (hB0 (v + 1) (by omega)))) ?_
        refine xk_load rfl (p := 1070) rfl rfl ?_
        refine xk_load rfl (p := 1071) rfl rfl ?_
        refine xk_push rfl (p := 1072) rfl ?_
        refine xk_bin rfl (p := 1073) rfl (z := ((v + 2 : Nat) : Int)) (congrArg some (xadd_n (n := v) (m := 2) (by omega))) ?_
        refine xk_ald rfl (p := 1074) rfl (v := (0, Z (v + 2))) ((xal0 hA0 (show v + 2 < N0 by omega)).trans (congrArg (fun z => some (0, z)) (hB0 (v + 2) (by omega)))) ?_
        refine xk_call rfl (p := 1077) rfl (by decide) rfl (Nat.le_of_ble_eq_true rfl) (Nat.le_of_ble_eq_true rfl) (xrv (ly_m L) (by decide)) (as := [(2, ((292 : Nat) : Int)), (0, Z (v + 1)), (0, Z (v + 2))]) (r := [(0, A_)]) rfl (hB) ?_
        rintro _ g v2 ⟨rfl, rfl, w_, hW⟩
        refine xk_icmp rfl (p := 1080) rfl (fun c1077_62 => ?_) (fun c1077_62 => ?_)
        · replace c1077_62 : A_ = A_ := c1077_62
          refine xk_iinc rfl (p := 1380) rfl (x := ((v : Nat) : Int)) rfl (ls' := [(2, ((0 : Nat) : Int)), (2, ((2 : Nat) : Int)), (2, ((292 : Nat) : Int)), (0, ((v + 6 : Nat) : Int))]) (by rw [show xadd ((v : Nat) : Int) 6 = ((v + 6 : Nat) : Int) from (xadd_r (by omega) (by omega)).trans (by omega)]; rfl) ?_
          refine xk_goto rfl ?_
          exact ih1 (by omega) (v + 6) w_ v2 (by exact hW) (by omega)
        · replace c1077_62 : ¬ (A_ = A_) := c1077_62
          exact absurd c1077_62 (by exact fun h => h rfl)
      by_cases c33_63 : xand (Z v) 63 = 30
      · refine xk_switch rfl (w := 1082) (by rw [c33_63]; rfl) ?_
        refine xk_load rfl (p := 1083) rfl rfl ?_
        have pc_ := LR.im L h1_1
        generalize ((nN m : Nat) : Int) = A_ at pc_
        refine xk_call rfl (p := 1086) rfl (by decide) rfl (Nat.le_of_ble_eq_true rfl) (Nat.le_of_ble_eq_true rfl) (xrv (ly_x L) (by decide)) (as := [(2, ((2 : Nat) : Int))]) (r := []) rfl (pc_) ?_
        rintro _ g v1 ⟨rfl, rfl, hB0, hB⟩
        refine xk_load rfl (p := 1087) rfl rfl ?_
        refine xk_call rfl (p := 1090) rfl (by decide) rfl (Nat.le_of_ble_eq_true rfl) (Nat.le_of_ble_eq_true rfl) (xrv (ly_m L) (by decide)) (as := [(2, ((292 : Nat) : Int))]) (r := [(0, A_)]) rfl (hB) ?_
        rintro _ g v2 ⟨rfl, rfl, w_, hW⟩
        refine xk_icmp rfl (p := 1093) rfl (fun c1090_64 => ?_) (fun c1090_64 => ?_)
        · replace c1090_64 : A_ = A_ := c1090_64
          refine xk_iinc rfl (p := 1380) rfl (x := ((v : Nat) : Int)) rfl (ls' := [(2, ((0 : Nat) : Int)), (2, ((2 : Nat) : Int)), (2, ((292 : Nat) : Int)), (0, ((v + 6 : Nat) : Int))]) (by rw [show xadd ((v : Nat) : Int) 6 = ((v + 6 : Nat) : Int) from (xadd_r (by omega) (by omega)).trans (by omega)]; rfl) ?_
          refine xk_goto rfl ?_
          exact ih1 (by omega) (v + 6) w_ v2 (by exact hW) (by omega)
        · replace c1090_64 : ¬ (A_ = A_) := c1090_64
          exact absurd c1090_64 (by exact fun h => h rfl)
      by_cases c33_65 : xand (Z v) 63 = 31
      · refine xk_switch rfl (w := 1095) (by rw [c33_65]; rfl) ?_
        refine xk_load rfl (p := 1096) rfl rfl ?_
        have pc_ := o_undo L h1_1
        obtain ⟨A_, hA_⟩ := y_undo_some (m := m)
        rw [hA_] at pc_
        refine xk_call rfl (p := 1099) rfl (by decide) rfl (Nat.le_of_ble_eq_true rfl) (Nat.le_of_ble_eq_true rfl) (xrv (ly_x L) (by decide)) (as := [(2, ((2 : Nat) : Int))]) (r := []) rfl (pc_) ?_
        rintro _ g v1 ⟨rfl, rfl, hB0, hB⟩
        refine xk_load rfl (p := 1100) rfl rfl ?_
        refine xk_call rfl (p := 1103) rfl (by decide) rfl (Nat.le_of_ble_eq_true rfl) (Nat.le_of_ble_eq_true rfl) (xrv (ly_m L) (by decide)) (as := [(2, ((292 : Nat) : Int))]) (r := [(0, A_)]) rfl (hB) ?_
        rintro _ g v2 ⟨rfl, rfl, w_, hW⟩
        refine xk_icmp rfl (p := 1106) rfl (fun c1103_66 => ?_) (fun c1103_66 => ?_)
        · replace c1103_66 : A_ = A_ := c1103_66
          refine xk_iinc rfl (p := 1380) rfl (x := ((v : Nat) : Int)) rfl (ls' := [(2, ((0 : Nat) : Int)), (2, ((2 : Nat) : Int)), (2, ((292 : Nat) : Int)), (0, ((v + 6 : Nat) : Int))]) (by rw [show xadd ((v : Nat) : Int) 6 = ((v + 6 : Nat) : Int) from (xadd_r (by omega) (by omega)).trans (by omega)]; rfl) ?_
          refine xk_goto rfl ?_
          exact ih1 (by omega) (v + 6) w_ v2 (by exact hW) (by omega)
        · replace c1103_66 : ¬ (A_ = A_) := c1103_66
          exact absurd c1103_66 (by exact fun h => h rfl)
      by_cases c33_67 : xand (Z v) 63 = 32
      · refine xk_switch rfl (w := 1108) (by rw [c33_67]; rfl) ?_
        refine xk_load rfl (p := 1109) rfl rfl ?_
        refine xk_load rfl (p := 1110) rfl rfl ?_
        refine xk_load rfl (p := 1111) rfl rfl ?_
        refine xk_push rfl (p := 1112) rfl ?_
        refine xk_bin rfl (p := 1113) rfl (z := ((v + 1 : Nat) : Int)) (congrArg some (xadd_n (n := v) (m := 1) (by omega))) ?_
        refine xk_ald rfl (p := 1114) rfl (v := (0, Z (v + 1))) ((xal0 hA0 (show v + 1 < N0 by omega)).trans (congrArg (fun z => some (0, z)) (h1_1.a0 (v + 1) (by omega)))) ?_
        refine xk_load rfl (p := 1115) rfl rfl ?_
        refine xk_load rfl (p := 1116) rfl rfl ?_
        refine xk_push rfl (p := 1117) rfl ?_
        refine xk_bin rfl (p := 1118) rfl (z := ((v + 2 : Nat) : Int)) (congrArg some (xadd_n (n := v) (m := 2) (by omega))) ?_
        refine xk_ald rfl (p := 1119) rfl (v := (0, Z (v + 2))) ((xal0 hA0 (show v + 2 < N0 by omega)).trans (congrArg (fun z => some (0, z)) (h1_1.a0 (v + 2) (by omega)))) ?_
        have pc_ := o_taken (x := Z (v + 1)) (y := Z (v + 2)) L h1_1 (hZ _) (hZ _)
        generalize y_taken m (Z (v + 1)) (Z (v + 2)) = A_ at pc_
        refine xk_call rfl (p := 1122) rfl (by decide) rfl (Nat.le_of_ble_eq_true rfl) (Nat.le_of_ble_eq_true rfl) (xrv (ly_x L) (by decide)) (as := [(2, ((2 : Nat) : Int)), (0, Z (v + 1)), (0, Z (v + 2))]) (r := []) rfl (pc_) ?_
        rintro _ g v1 ⟨rfl, rfl, hB0, hB⟩
        refine xk_load rfl (p := 1123) rfl rfl ?_
        refine xk_load rfl (p := 1124) rfl rfl ?_
        refine xk_load rfl (p := 1125) rfl rfl ?_
        refine xk_push rfl (p := 1126) rfl ?_
        refine xk_bin rfl (p := 1127) rfl (z := ((v + 1 : Nat) : Int)) (congrArg some (xadd_n (n := v) (m := 1) (by omega))) ?_
        refine xk_ald rfl (p := 1128) rfl (v := (0, Z (v + 1))) ((xal0 hA0 (show v + 1 < N0 by omega)).trans (congrArg (fun z => some (0, z)) (hB0 (v + 1) (by omega)))) ?_
        refine xk_load rfl (p := 1129) rfl rfl ?_
        refine xk_load rfl (p := 1130) rfl rfl ?_
        refine xk_push rfl (p := 1131) rfl ?_
        refine xk_bin rfl (p := 1132) rfl (z := ((v + 2 : Nat) : Int)) (congrArg some (xadd_n (n := v) (m := 2) (by omega))) ?_
        refine xk_ald rfl (p := 1133) rfl (v := (0, Z (v + 2))) ((xal0 hA0 (show v + 2 < N0 by omega)).trans (congrArg (fun z => some (0, z)) (hB0 (v + 2) (by omega)))) ?_
        refine xk_call rfl (p := 1136) rfl (by decide) rfl (Nat.le_of_ble_eq_true rfl) (Nat.le_of_ble_eq_true rfl) (xrv (ly_m L) (by decide)) (as := [(2, ((292 : Nat) : Int)), (0, Z (v + 1)), (0, Z (v + 2))]) (r := [(0, A_)]) rfl (hB) ?_
        rintro _ g v2 ⟨rfl, rfl, w_, hW⟩
        refine xk_icmp rfl (p := 1139) rfl (fun c1136_68 => ?_) (fun c1136_68 => ?_)
        · replace c1136_68 : A_ = A_ := c1136_68
          refine xk_iinc rfl (p := 1380) rfl (x := ((v : Nat) : Int)) rfl (ls' := [(2, ((0 : Nat) : Int)), (2, ((2 : Nat) : Int)), (2, ((292 : Nat) : Int)), (0, ((v + 6 : Nat) : Int))]) (by rw [show xadd ((v : Nat) : Int) 6 = ((v + 6 : Nat) : Int) from (xadd_r (by omega) (by omega)).trans (by omega)]; rfl) ?_
          refine xk_goto rfl ?_
          exact ih1 (by omega) (v + 6) w_ v2 (by exact hW) (by omega)
        · replace c1136_68 : ¬ (A_ = A_) := c1136_68
          exact absurd c1136_68 (by exact fun h => h rfl)
      by_cases c33_69 : xand (Z v) 63 = 33
      · refine xk_switch rfl (w := 1141) (by rw [c33_69]; rfl) ?_
        refine xk_load rfl (p := 1142) rfl rfl ?_
        refine xk_load rfl (p := 1143) rfl rfl ?_
        refine xk_load rfl (p := 1144) rfl rfl ?_
        refine xk_push rfl (p := 1145) rfl ?_
        refine xk_bin rfl (p := 1146) rfl (z := ((v + 1 : Nat) : Int)) (congrArg some (xadd_n (n := v) (m := 1) (by omega))) ?_
        refine xk_ald rfl (p := 1147) rfl (v := (0, Z (v + 1))) ((xal0 hA0 (show v + 1 < N0 by omega)).trans (congrArg (fun z => some (0, z)) (h1_1.a0 (v + 1) (by omega)))) ?_
        have pc_ := o_count (x := Z (v + 1)) L h1_1 (hZ _)
        generalize y_count m (Z (v + 1)) = A_ at pc_
        refine xk_call rfl (p := 1150) rfl (by decide) rfl (Nat.le_of_ble_eq_true rfl) (Nat.le_of_ble_eq_true rfl) (xrv (ly_x L) (by decide)) (as := [(2, ((2 : Nat) : Int)), (0, Z (v + 1))]) (r := []) rfl (pc_) ?_
        rintro _ g v1 ⟨rfl, rfl, hB0, hB⟩
        refine xk_load rfl (p := 1151) rfl rfl ?_
        refine xk_load rfl (p := 1152) rfl rfl ?_
        refine xk_load rfl (p := 1153) rfl rfl ?_
        refine xk_push rfl (p := 1154) rfl ?_
        refine xk_bin rfl (p := 1155) rfl (z := ((v + 1 : Nat) : Int)) (congrArg some (xadd_n (n := v) (m := 1) (by omega))) ?_
        refine xk_ald rfl (p := 1156) rfl (v := (0, Z (v + 1))) ((xal0 hA0 (show v + 1 < N0 by omega)).trans (congrArg (fun z => some (0, z)) (hB0 (v + 1) (by omega)))) ?_
        refine xk_call rfl (p := 1159) rfl (by decide) rfl (Nat.le_of_ble_eq_true rfl) (Nat.le_of_ble_eq_true rfl) (xrv (ly_m L) (by decide)) (as := [(2, ((292 : Nat) : Int)), (0, Z (v + 1))]) (r := [(0, A_)]) rfl (hB) ?_
        rintro _ g v2 ⟨rfl, rfl, w_, hW⟩
        refine xk_icmp rfl (p := 1162) rfl (fun c1159_70 => ?_) (fun c1159_70 => ?_)
        · replace c1159_70 : A_ = A_ := c1159_70
          refine xk_iinc rfl (p := 1380) rfl (x := ((v : Nat) : Int)) rfl (ls' := [(2, ((0 : Nat) : Int)), (2, ((2 : Nat) : Int)), (2, ((292 : Nat) : Int)), (0, ((v + 6 : Nat) : Int))]) (by rw [show xadd ((v : Nat) : Int) 6 = ((v + 6 : Nat) : Int) from (xadd_r (by omega) (by omega)).trans (by omega)]; rfl) ?_
          refine xk_goto rfl ?_
          exact ih1 (by omega) (v + 6) w_ v2 (by exact hW) (by omega)
        · replace c1159_70 : ¬ (A_ = A_) := c1159_70
          exact absurd c1159_70 (by exact fun h => h rfl)
      by_cases c33_71 : xand (Z v) 63 = 34
      · refine xk_switch rfl (w := 1164) (by rw [c33_71]; rfl) ?_
        refine xk_load rfl (p := 1165) rfl rfl ?_
        refine xk_load rfl (p := 1166) rfl rfl ?_
        refine xk_load rfl (p := 1167) rfl rfl ?_
        refine xk_push rfl (p := 1168) rfl ?_
        refine xk_bin rfl (p := 1169) rfl (z := ((v + 1 : Nat) : Int)) (congrArg some (xadd_n (n := v) (m := 1) (by omega))) ?_
        refine xk_ald rfl (p := 1170) rfl (v := (0, Z (v + 1))) ((xal0 hA0 (show v + 1 < N0 by omega)).trans (congrArg (fun z => some (0, z)) (h1_1.a0 (v + 1) (by omega)))) ?_
        refine xk_load rfl (p := 1171) rfl rfl ?_
        refine xk_load rfl (p := 1172) rfl rfl ?_
        refine xk_push rfl (p := 1173) rfl ?_
        refine xk_bin rfl (p := 1174) rfl (z := ((v + 2 : Nat) : Int)) (congrArg some (xadd_n (n := v) (m := 2) (by omega))) ?_
        refine xk_ald rfl (p := 1175) rfl (v := (0, Z (v + 2))) ((xal0 hA0 (show v + 2 < N0 by omega)).trans (congrArg (fun z => some (0, z)) (h1_1.a0 (v + 2) (by omega)))) ?_
        refine xk_load rfl (p := 1176) rfl rfl ?_
        refine xk_load rfl (p := 1177) rfl rfl ?_
        refine xk_push rfl (p := 1178) rfl ?_
        refine xk_bin rfl (p := 1179) rfl (z := ((v + 3 : Nat) : Int)) (congrArg some (xadd_n (n := v) (m := 3) (by omega))) ?_
        refine xk_ald rfl (p := 1180) rfl (v := (0, Z (v + 3))) ((xal0 hA0 (show v + 3 < N0 by omega)).trans (congrArg (fun z => some (0, z)) (h1_1.a0 (v + 3) (by omega)))) ?_
        have pc_ := o_tape (x := Z (v + 1)) (y := Z (v + 2)) (z := Z (v + 3)) L h1_1 (hZ _) (hZ _) (hZ _)
        obtain ⟨A_, hA_⟩ := y_tape_some (m := m) (x := Z (v + 1)) (y := Z (v + 2)) (z := Z (v + 3))
        rw [hA_] at pc_
        refine xk_call rfl (p := 1183) rfl (by decide) rfl (Nat.le_of_ble_eq_true rfl) (Nat.le_of_ble_eq_true rfl) (xrv (ly_x L) (by decide)) (as := [(2, ((2 : Nat) : Int)), (0, Z (v + 1)), (0, Z (v + 2)), (0, Z (v + 3))]) (r := []) rfl (pc_) ?_
        rintro _ g v1 ⟨rfl, rfl, hB0, hB⟩
        refine xk_load rfl (p := 1184) rfl rfl ?_
        refine xk_load rfl (p := 1185) rfl rfl ?_
        refine xk_load rfl (p := 1186) rfl rfl ?_
        refine xk_push rfl (p := 1187) rfl ?_
        refine xk_bin rfl (p := 1188) rfl (z := ((v + 1 : Nat) : Int)) (congrArg some (xadd_n (n := v) (m := 1) (by omega))) ?_
        refine xk_ald rfl (p := 1189) rfl (v := (0, Z (v + 1))) ((xal0 hA0 (show v + 1 < N0 by omega)).trans (congrArg (fun z => some (0, z)) (hB0 (v + 1) (by omega)))) ?_
        refine xk_load rfl (p := 1190) rfl rfl ?_
        refine xk_load rfl (p := 1191) rfl rfl ?_
        refine xk_push rfl (p := 1192) rfl ?_
        refine xk_bin rfl (p := 1193) rfl (z := ((v + 2 : Nat) : Int)) (congrArg some (xadd_n (n := v) (m := 2) (by omega))) ?_
        refine xk_ald rfl (p := 1194) rfl (v := (0, Z (v + 2))) ((xal0 hA0 (show v + 2 < N0 by omega)).trans (congrArg (fun z => some (0, z)) (hB0 (v + 2) (by omega)))) ?_
        refine xk_load rfl (p := 1195) rfl rfl ?_
        refine xk_load rfl (p := 1196) rfl rfl ?_
        refine xk_push rfl (p := 1197) rfl ?_
        refine xk_bin rfl (p := 1198) rfl (z := ((v + 3 : Nat) : Int)) (congrArg some (xadd_n (n := v) (m := 3) (by omega))) ?_
        refine xk_ald rfl (p := 1199) rfl (v := (0, Z (v + 3))) ((xal0 hA0 (show v + 3 < N0 by omega)).trans (congrArg (fun z => some (0, z)) (hB0 (v + 3) (by omega)))) ?_
        refine xk_call rfl (p := 1202) rfl (by decide) rfl (Nat.le_of_ble_eq_true rfl) (Nat.le_of_ble_eq_true rfl) (xrv (ly_m L) (by decide)) (as := [(2, ((292 : Nat) : Int)), (0, Z (v + 1)), (0, Z (v + 2)), (0, Z (v + 3))]) (r := [(0, A_)]) rfl (hB) ?_
        rintro _ g v2 ⟨rfl, rfl, w_, hW⟩
        refine xk_icmp rfl (p := 1205) rfl (fun c1202_72 => ?_) (fun c1202_72 => ?_)
        · replace c1202_72 : A_ = A_ := c1202_72
          refine xk_iinc rfl (p := 1380) rfl (x := ((v : Nat) : Int)) rfl (ls' := [(2, ((0 : Nat) : Int)), (2, ((2 : Nat) : Int)), (2, ((292 : Nat) : Int)), (0, ((v + 6 : Nat) : Int))]) (by rw [show xadd ((v : Nat) : Int) 6 = ((v + 6 : Nat) : Int) from (xadd_r (by omega) (by omega)).trans (by omega)]; rfl) ?_
          refine xk_goto rfl ?_
          exact ih1 (by omega) (v + 6) w_ v2 (by exact hW) (by omega)
        · replace c1202_72 : ¬ (A_ = A_) := c1202_72
          exact absurd c1202_72 (by exact fun h => h rfl)
      by_cases c33_73 : xand (Z v) 63 = 35
      · refine xk_switch rfl (w := 1207) (by rw [c33_73]; rfl) ?_
        refine xk_load rfl (p := 1208) rfl rfl ?_
        refine xk_load rfl (p := 1209) rfl rfl ?_
        refine xk_load rfl (p := 1210) rfl rfl ?_
        refine xk_push rfl (p := 1211) rfl ?_
        refine xk_bin rfl (p := 1212) rfl (z := ((v + 1 : Nat) : Int)) (congrArg some (xadd_n (n := v) (m := 1) (by omega))) ?_
        refine xk_ald rfl (p := 1213) rfl (v := (0, Z (v + 1))) ((xal0 hA0 (show v + 1 < N0 by omega)).trans (congrArg (fun z => some (0, z)) (h1_1.a0 (v + 1) (by omega)))) ?_
        refine xk_load rfl (p := 1214) rfl rfl ?_
        refine xk_load rfl (p := 1215) rfl rfl ?_
        refine xk_push rfl (p := 1216) rfl ?_
        refine xk_bin rfl (p := 1217) rfl (z := ((v + 2 : Nat) : Int)) (congrArg some (xadd_n (n := v) (m := 2) (by omega))) ?_
        refine xk_ald rfl (p := 1218) rfl (v := (0, Z (v + 2))) ((xal0 hA0 (show v + 2 < N0 by omega)).trans (congrArg (fun z => some (0, z)) (h1_1.a0 (v + 2) (by omega)))) ?_
        refine xk_load rfl (p := 1219) rfl rfl ?_
        refine xk_load rfl (p := 1220) rfl rfl ?_
        refine xk_push rfl (p := 1221) rfl ?_
        refine xk_bin rfl (p := 1222) rfl (z := ((v + 3 : Nat) : Int)) (congrArg some (xadd_n (n := v) (m := 3) (by omega))) ?_
        refine xk_ald rfl (p := 1223) rfl (v := (0, Z (v + 3))) ((xal0 hA0 (show v + 3 < N0 by omega)).trans (congrArg (fun z => some (0, z)) (h1_1.a0 (v + 3) (by omega)))) ?_
        refine xk_un rfl (p := 1224) rfl (w := (1, Z (v + 3))) (rfl) ?_
        refine xk_push rfl (p := 1226) rfl ?_
        refine xk_lbin rfl (p := 1227) rfl rfl (w := (1, xlshl (Z (v + 3)) 32)) (rfl) ?_
        refine xk_load rfl (p := 1228) rfl rfl ?_
        refine xk_load rfl (p := 1229) rfl rfl ?_
        refine xk_push rfl (p := 1230) rfl ?_
        refine xk_bin rfl (p := 1231) rfl (z := ((v + 4 : Nat) : Int)) (congrArg some (xadd_n (n := v) (m := 4) (by omega))) ?_
        refine xk_ald rfl (p := 1232) rfl (v := (0, Z (v + 4))) ((xal0 hA0 (show v + 4 < N0 by omega)).trans (congrArg (fun z => some (0, z)) (h1_1.a0 (v + 4) (by omega)))) ?_
        refine xk_un rfl (p := 1233) rfl (w := (1, Z (v + 4))) (rfl) ?_
        refine xk_push rfl (p := 1236) rfl ?_
        refine xk_lbin rfl (p := 1237) rfl rfl (w := (1, xland (Z (v + 4)) 4294967295)) (rfl) ?_
        refine xk_lbin rfl (p := 1238) rfl rfl (w := (1, xlor (xlshl (Z (v + 3)) 32) (xland (Z (v + 4)) 4294967295))) (rfl) ?_
        have pc_ := o_item (x := Z (v + 1)) (y := Z (v + 2)) (z := xlor (xlshl (Z (v + 3)) 32) (xland (Z (v + 4)) 4294967295)) L h1_1 (hZ _) (hZ _)
        obtain ⟨A_, hA_⟩ := y_item_some (m := m) (x := Z (v + 1)) (y := Z (v + 2)) (z := xlor (xlshl (Z (v + 3)) 32) (xland (Z (v + 4)) 4294967295))
        rw [hA_] at pc_
        refine xk_call rfl (p := 1241) rfl (by decide) rfl (Nat.le_of_ble_eq_true rfl) (Nat.le_of_ble_eq_true rfl) (xrv (ly_x L) (by decide)) (as := [(2, ((2 : Nat) : Int)), (0, Z (v + 1)), (0, Z (v + 2)), (1, xlor (xlshl (Z (v + 3)) 32) (xland (Z (v + 4)) 4294967295))]) (r := []) rfl (pc_) ?_
        rintro _ g v1 ⟨rfl, rfl, hB0, hB⟩
        refine xk_load rfl (p := 1242) rfl rfl ?_
        refine xk_load rfl (p := 1243) rfl rfl ?_
        refine xk_load rfl (p := 1244) rfl rfl ?_
        refine xk_push rfl (p := 1245) rfl ?_
        refine xk_bin rfl (p := 1246) rfl (z := ((v + 1 : Nat) : Int)) (congrArg some (xadd_n (n := v) (m := 1) (by omega))) ?_
        refine xk_ald rfl (p := 1247) rfl (v := (0, Z (v + 1))) ((xal0 hA0 (show v + 1 < N0 by omega)).trans (congrArg (fun z => some (0, z)) (hB0 (v + 1) (by omega)))) ?_
        refine xk_load rfl (p := 1248) rfl rfl ?_
        refine xk_load rfl (p := 1249) rfl rfl ?_
        refine xk_push rfl (p := 1250) rfl ?_
        refine xk_bin rfl (p := 1251) rfl (z := ((v + 2 : Nat) : Int)) (congrArg some (xadd_n (n := v) (m := 2) (by omega))) ?_
        refine xk_ald rfl (p := 1252) rfl (v := (0, Z (v + 2))) ((xal0 hA0 (show v + 2 < N0 by omega)).trans (congrArg (fun z => some (0, z)) (hB0 (v + 2) (by omega)))) ?_
        refine xk_load rfl (p := 1253) rfl rfl ?_
        refine xk_load rfl (p := 1254) rfl rfl ?_
        refine xk_push rfl (p := 1255) rfl ?_
        refine xk_bin rfl (p := 1256) rfl (z := ((v + 3 : Nat) : Int)) (congrArg some (xadd_n (n := v) (m := 3) (by omega))) ?_
        refine xk_ald rfl (p := 1257) rfl (v := (0, Z (v + 3))) ((xal0 hA0 (show v + 3 < N0 by omega)).trans (congrArg (fun z => some (0, z)) (hB0 (v + 3) (by omega)))) ?_
        refine xk_un rfl (p := 1258) rfl (w := (1, Z (v + 3))) (rfl) ?_
        refine xk_push rfl (p := 1260) rfl ?_
        refine xk_lbin rfl (p := 1261) rfl rfl (w := (1, xlshl (Z (v + 3)) 32)) (rfl) ?_
        refine xk_load rfl (p := 1262) rfl rfl ?_
        refine xk_load rfl (p := 1263) rfl rfl ?_
        refine xk_push rfl (p := 1264) rfl ?_
        refine xk_bin rfl (p := 1265) rfl (z := ((v + 4 : Nat) : Int)) (congrArg some (xadd_n (n := v) (m := 4) (by omega))) ?_
        refine xk_ald rfl (p := 1266) rfl (v := (0, Z (v + 4))) ((xal0 hA0 (show v + 4 < N0 by omega)).trans (congrArg (fun z => some (0, z)) (hB0 (v + 4) (by omega)))) ?_
        refine xk_un rfl (p := 1267) rfl (w := (1, Z (v + 4))) (rfl) ?_
        refine xk_push rfl (p := 1270) rfl ?_
        refine xk_lbin rfl (p := 1271) rfl rfl (w := (1, xland (Z (v + 4)) 4294967295)) (rfl) ?_
        refine xk_lbin rfl (p := 1272) rfl rfl (w := (1, xlor (xlshl (Z (v + 3)) 32) (xland (Z (v + 4)) 4294967295))) (rfl) ?_
        refine xk_call rfl (p := 1275) rfl (by decide) rfl (Nat.le_of_ble_eq_true rfl) (Nat.le_of_ble_eq_true rfl) (xrv (ly_m L) (by decide)) (as := [(2, ((292 : Nat) : Int)), (0, Z (v + 1)), (0, Z (v + 2)), (1, xlor (xlshl (Z (v + 3)) 32) (xland (Z (v + 4)) 4294967295))]) (r := [(0, A_)]) rfl (hB) ?_
        rintro _ g v2 ⟨rfl, rfl, w_, hW⟩
        refine xk_icmp rfl (p := 1278) rfl (fun c1275_74 => ?_) (fun c1275_74 => ?_)
        · replace c1275_74 : A_ = A_ := c1275_74
          refine xk_iinc rfl (p := 1380) rfl (x := ((v : Nat) : Int)) rfl (ls' := [(2, ((0 : Nat) : Int)), (2, ((2 : Nat) : Int)), (2, ((292 : Nat) : Int)), (0, ((v + 6 : Nat) : Int))]) (by rw [show xadd ((v : Nat) : Int) 6 = ((v + 6 : Nat) : Int) from (xadd_r (by omega) (by omega)).trans (by omega)]; rfl) ?_
          refine xk_goto rfl ?_
          exact ih1 (by omega) (v + 6) w_ v2 (by exact hW) (by omega)
        · replace c1275_74 : ¬ (A_ = A_) := c1275_74
          exact absurd c1275_74 (by exact fun h => h rfl)
      by_cases c33_75 : xand (Z v) 63 = 36
      · refine xk_switch rfl (w := 1280) (by rw [c33_75]; rfl) ?_
        refine xk_load rfl (p := 1281) rfl rfl ?_
        refine xk_load rfl (p := 1282) rfl rfl ?_
        refine xk_load rfl (p := 1283) rfl rfl ?_
        refine xk_push rfl (p := 1284) rfl ?_
        refine xk_bin rfl (p := 1285) rfl (z := ((v + 1 : Nat) : Int)) (congrArg some (xadd_n (n := v) (m := 1) (by omega))) ?_
        refine xk_ald rfl (p := 1286) rfl (v := (0, Z (v + 1))) ((xal0 hA0 (show v + 1 < N0 by omega)).trans (congrArg (fun z => some (0, z)) (h1_1.a0 (v + 1) (by omega)))) ?_
        refine xk_load rfl (p := 1287) rfl rfl ?_
        refine xk_load rfl (p := 1288) rfl rfl ?_
        refine xk_push rfl (p := 1289) rfl ?_
        refine xk_bin rfl (p := 1290) rfl (z := ((v + 2 : Nat) : Int)) (congrArg some (xadd_n (n := v) (m := 2) (by omega))) ?_
        refine xk_ald rfl (p := 1291) rfl (v := (0, Z (v + 2))) ((xal0 hA0 (show v + 2 < N0 by omega)).trans (congrArg (fun z => some (0, z)) (h1_1.a0 (v + 2) (by omega)))) ?_
        have pc_ := o_read (x := Z (v + 1)) (y := Z (v + 2)) L h1_1 (hZ _) (hZ _)
        generalize y_read m (Z (v + 1)) (Z (v + 2)) = A_ at pc_
        refine xk_call rfl (p := 1294) rfl (by decide) rfl (Nat.le_of_ble_eq_true rfl) (Nat.le_of_ble_eq_true rfl) (xrv (ly_x L) (by decide)) (as := [(2, ((2 : Nat) : Int)), (0, Z (v + 1)), (0, Z (v + 2))]) (r := []) rfl (pc_) ?_
        rintro _ g v1 ⟨rfl, rfl, hB0, hB⟩
        refine xk_load rfl (p := 1295) rfl rfl ?_
        refine xk_load rfl (p := 1296) rfl rfl ?_
        refine xk_load rfl (p := 1297) rfl rfl ?_
        refine xk_push rfl (p := 1298) rfl ?_
        refine xk_bin rfl (p := 1299) rfl (z := ((v + 1 : Nat) : Int)) (congrArg some (xadd_n (n := v) (m := 1) (by omega))) ?_
        refine xk_ald rfl (p := 1300) rfl (v := (0, Z (v + 1))) ((xal0 hA0 (show v + 1 < N0 by omega)).trans (congrArg (fun z => some (0, z)) (hB0 (v + 1) (by omega)))) ?_
        refine xk_load rfl (p := 1301) rfl rfl ?_
        refine xk_load rfl (p := 1302) rfl rfl ?_
        refine xk_push rfl (p := 1303) rfl ?_
        refine xk_bin rfl (p := 1304) rfl (z := ((v + 2 : Nat) : Int)) (congrArg some (xadd_n (n := v) (m := 2) (by omega))) ?_
        refine xk_ald rfl (p := 1305) rfl (v := (0, Z (v + 2))) ((xal0 hA0 (show v + 2 < N0 by omega)).trans (congrArg (fun z => some (0, z)) (hB0 (v + 2) (by omega)))) ?_
        refine xk_call rfl (p := 1308) rfl (by decide) rfl (Nat.le_of_ble_eq_true rfl) (Nat.le_of_ble_eq_true rfl) (xrv (ly_m L) (by decide)) (as := [(2, ((292 : Nat) : Int)), (0, Z (v + 1)), (0, Z (v + 2))]) (r := [(1, A_)]) rfl (hB) ?_
        rintro _ g v2 ⟨rfl, rfl, w_, hW⟩
        refine xk_lbin rfl (p := 1309) rfl rfl (w := (0, xlcmp A_ A_)) (rfl) ?_
        refine xk_if rfl (p := 1312) rfl (fun c1309_76 => ?_) (fun c1309_76 => ?_)
        · replace c1309_76 : xlcmp A_ A_ = 0 := c1309_76
          refine xk_iinc rfl (p := 1380) rfl (x := ((v : Nat) : Int)) rfl (ls' := [(2, ((0 : Nat) : Int)), (2, ((2 : Nat) : Int)), (2, ((292 : Nat) : Int)), (0, ((v + 6 : Nat) : Int))]) (by rw [show xadd ((v : Nat) : Int) 6 = ((v + 6 : Nat) : Int) from (xadd_r (by omega) (by omega)).trans (by omega)]; rfl) ?_
          refine xk_goto rfl ?_
          exact ih1 (by omega) (v + 6) w_ v2 (by exact hW) (by omega)
        · replace c1309_76 : ¬ (xlcmp A_ A_ = 0) := c1309_76
          exact absurd c1309_76 (by exact fun h => h (xlcmp_c.2.2.mpr rfl))
      by_cases c33_77 : xand (Z v) 63 = 37
      · refine xk_switch rfl (w := 1314) (by rw [c33_77]; rfl) ?_
        refine xk_load rfl (p := 1315) rfl rfl ?_
        refine xk_load rfl (p := 1316) rfl rfl ?_
        refine xk_load rfl (p := 1317) rfl rfl ?_
        refine xk_push rfl (p := 1318) rfl ?_
        refine xk_bin rfl (p := 1319) rfl (z := ((v + 1 : Nat) : Int)) (congrArg some (xadd_n (n := v) (m := 1) (by omega))) ?_
        refine xk_ald rfl (p := 1320) rfl (v := (0, Z (v + 1))) ((xal0 hA0 (show v + 1 < N0 by omega)).trans (congrArg (fun z => some (0, z)) (h1_1.a0 (v + 1) (by omega)))) ?_
        refine xk_load rfl (p := 1321) rfl rfl ?_
        refine xk_load rfl (p := 1322) rfl rfl ?_
        refine xk_push rfl (p := 1323) rfl ?_
        refine xk_bin rfl (p := 1324) rfl (z := ((v + 2 : Nat) : Int)) (congrArg some (xadd_n (n := v) (m := 2) (by omega))) ?_
        refine xk_ald rfl (p := 1325) rfl (v := (0, Z (v + 2))) ((xal0 hA0 (show v + 2 < N0 by omega)).trans (congrArg (fun z => some (0, z)) (h1_1.a0 (v + 2) (by omega)))) ?_
        refine xk_load rfl (p := 1326) rfl rfl ?_
        refine xk_load rfl (p := 1327) rfl rfl ?_
        refine xk_push rfl (p := 1328) rfl ?_
        refine xk_bin rfl (p := 1329) rfl (z := ((v + 3 : Nat) : Int)) (congrArg some (xadd_n (n := v) (m := 3) (by omega))) ?_
        refine xk_ald rfl (p := 1330) rfl (v := (0, Z (v + 3))) ((xal0 hA0 (show v + 3 < N0 by omega)).trans (congrArg (fun z => some (0, z)) (h1_1.a0 (v + 3) (by omega)))) ?_
        refine xk_load rfl (p := 1331) rfl rfl ?_
        refine xk_load rfl (p := 1332) rfl rfl ?_
        refine xk_push rfl (p := 1333) rfl ?_
        refine xk_bin rfl (p := 1334) rfl (z := ((v + 4 : Nat) : Int)) (congrArg some (xadd_n (n := v) (m := 4) (by omega))) ?_
        refine xk_ald rfl (p := 1335) rfl (v := (0, Z (v + 4))) ((xal0 hA0 (show v + 4 < N0 by omega)).trans (congrArg (fun z => some (0, z)) (h1_1.a0 (v + 4) (by omega)))) ?_
        refine xk_load rfl (p := 1336) rfl rfl ?_
        refine xk_load rfl (p := 1337) rfl rfl ?_
        refine xk_push rfl (p := 1338) rfl ?_
        refine xk_bin rfl (p := 1339) rfl (z := ((v + 5 : Nat) : Int)) (congrArg some (xadd_n (n := v) (m := 5) (by omega))) ?_
        refine xk_ald rfl (p := 1340) rfl (v := (0, Z (v + 5))) ((xal0 hA0 (show v + 5 < N0 by omega)).trans (congrArg (fun z => some (0, z)) (h1_1.a0 (v + 5) (by omega)))) ?_
        have pc_ := o_shift (x := Z (v + 1)) (i := Z (v + 2)) (z := Z (v + 3)) (j := Z (v + 4)) (n := Z (v + 5)) L h1_1 (hZ _) (hZ _) (hZ _) (hZ _) (hZ _)
        obtain ⟨A_, hA_⟩ := y_shift_some (m := m) (x := Z (v + 1)) (i := Z (v + 2)) (z := Z (v + 3)) (j := Z (v + 4)) (n := Z (v + 5))
        rw [hA_] at pc_
        refine xk_call rfl (p := 1343) rfl (by decide) rfl (Nat.le_of_ble_eq_true rfl) (Nat.le_of_ble_eq_true rfl) (xrv (ly_x L) (by decide)) (as := [(2, ((2 : Nat) : Int)), (0, Z (v + 1)), (0, Z (v + 2)), (0, Z (v + 3)), (0, Z (v + 4)), (0, Z (v + 5))]) (r := []) rfl (pc_) ?_
        rintro _ g v1 ⟨rfl, rfl, hB0, hB⟩
        refine xk_load rfl (p := 1344) rfl rfl ?_
        refine xk_load rfl (p := 1345) rfl rfl ?_
        refine xk_load rfl (p := 1346) rfl rfl ?_
        refine xk_push rfl (p := 1347) rfl ?_
        refine xk_bin rfl (p := 1348) rfl (z := ((v + 1 : Nat) : Int)) (congrArg some (xadd_n (n := v) (m := 1) (by omega))) ?_
        refine xk_ald rfl (p := 1349) rfl (v := (0, Z (v + 1))) ((xal0 hA0 (show v + 1 < N0 by omega)).trans (congrArg (fun z => some (0, z)) (hB0 (v + 1) (by omega)))) ?_
        refine xk_load rfl (p := 1350) rfl rfl ?_
        refine xk_load rfl (p := 1351) rfl rfl ?_
        refine xk_push rfl (p := 1352) rfl ?_
        refine xk_bin rfl (p := 1353) rfl (z := ((v + 2 : Nat) : Int)) (congrArg some (xadd_n (n := v) (m := 2) (by omega))) ?_
        refine xk_ald rfl (p := 1354) rfl (v := (0, Z (v + 2))) ((xal0 hA0 (show v + 2 < N0 by omega)).trans (congrArg (fun z => some (0, z)) (hB0 (v + 2) (by omega)))) ?_
        refine xk_load rfl (p := 1355) rfl rfl ?_
        refine xk_load rfl (p := 1356) rfl rfl ?_
        refine xk_push rfl (p := 1357) rfl ?_
        refine xk_bin rfl (p := 1358) rfl (z := ((v + 3 : Nat) : Int)) (congrArg some (xadd_n (n := v) (m := 3) (by omega))) ?_
        refine xk_ald rfl (p := 1359) rfl (v := (0, Z (v + 3))) ((xal0 hA0 (show v + 3 < N0 by omega)).trans (congrArg (fun z => some (0, z)) (hB0 (v + 3) (by omega)))) ?_
        refine xk_load rfl (p := 1360) rfl rfl ?_
        refine xk_load rfl (p := 1361) rfl rfl ?_
        refine xk_push rfl (p := 1362) rfl ?_
        refine xk_bin rfl (p := 1363) rfl (z := ((v + 4 : Nat) : Int)) (congrArg some (xadd_n (n := v) (m := 4) (by omega))) ?_
        refine xk_ald rfl (p := 1364) rfl (v := (0, Z (v + 4))) ((xal0 hA0 (show v + 4 < N0 by omega)).trans (congrArg (fun z => some (0, z)) (hB0 (v + 4) (by omega)))) ?_
        refine xk_load rfl (p := 1365) rfl rfl ?_
        refine xk_load rfl (p := 1366) rfl rfl ?_
        refine xk_push rfl (p := 1367) rfl ?_
        refine xk_bin rfl (p := 1368) rfl (z := ((v + 5 : Nat) : Int)) (congrArg some (xadd_n (n := v) (m := 5) (by omega))) ?_
        refine xk_ald rfl (p := 1369) rfl (v := (0, Z (v + 5))) ((xal0 hA0 (show v + 5 < N0 by omega)).trans (congrArg (fun z => some (0, z)) (hB0 (v + 5) (by omega)))) ?_
        refine xk_call rfl (p := 1372) rfl (by decide) rfl (Nat.le_of_ble_eq_true rfl) (Nat.le_of_ble_eq_true rfl) (xrv (ly_m L) (by decide)) (as := [(2, ((292 : Nat) : Int)), (0, Z (v + 1)), (0, Z (v + 2)), (0, Z (v + 3)), (0, Z (v + 4)), (0, Z (v + 5))]) (r := [(0, A_)]) rfl (hB) ?_
        rintro _ g v2 ⟨rfl, rfl, w_, hW⟩
        refine xk_icmp rfl (p := 1375) rfl (fun c1372_78 => ?_) (fun c1372_78 => ?_)
        · replace c1372_78 : A_ = A_ := c1372_78
          refine xk_iinc rfl (p := 1380) rfl (x := ((v : Nat) : Int)) rfl (ls' := [(2, ((0 : Nat) : Int)), (2, ((2 : Nat) : Int)), (2, ((292 : Nat) : Int)), (0, ((v + 6 : Nat) : Int))]) (by rw [show xadd ((v : Nat) : Int) 6 = ((v + 6 : Nat) : Int) from (xadd_r (by omega) (by omega)).trans (by omega)]; rfl) ?_
          refine xk_goto rfl ?_
          exact ih1 (by omega) (v + 6) w_ v2 (by exact hW) (by omega)
        · replace c1372_78 : ¬ (A_ = A_) := c1372_78
          exact absurd c1372_78 (by exact fun h => h rfl)
      refine xk_switch rfl (w := 1377) (if_pos (by first | omega | (simp only [List.length]; omega))) ?_
      refine xk_iinc rfl (p := 1380) rfl (x := ((v : Nat) : Int)) rfl (ls' := [(2, ((0 : Nat) : Int)), (2, ((2 : Nat) : Int)), (2, ((292 : Nat) : Int)), (0, ((v + 6 : Nat) : Int))]) (by rw [show xadd ((v : Nat) : Int) 6 = ((v + 6 : Nat) : Int) from (xadd_r (by omega) (by omega)).trans (by omega)]; rfl) ?_
      refine xk_goto rfl ?_
      exact ih1 (by omega) (v + 6) m u1 (by exact h1_1) (by omega)
  exact lp1 0 (by omega) 0 m t (by exact h) (by omega)