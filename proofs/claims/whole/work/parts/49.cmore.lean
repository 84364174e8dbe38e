/-! THE CLASS: TAKEN, EXPIRE, STATE -/
def ka (k : Int) : Int := if k = 0 then -1 else if k = 3 then 1 else 0
def under (k u : Int) : Prop := u = 0 ∨ k = u ∨ (k = 3 ∧ u = 1)
theorem c_under00 {d : Nat} {g : xG} {t : xD} (L : xLay g) (hK0 : t 1 0 = -1) (hK1 : t 1 1 = 0) (hK2 : t 1 2 = 0) (hK3 : t 1 3 = 1) : xCall (d) 111 [(0, 0), (0, 0)] g t (xQ g t (some (0, 1))) := by
  show xOk (d) 111 0 [(0, 0), (0, 0), (3, 0), (3, 0)] [] g t _
  refine xk_load rfl (p := 1) rfl rfl ?_
  refine xk_store rfl (p := 2) rfl (by decide) (Nat.le_of_ble_eq_true rfl) (ls' := [(0, 0), (0, 0), (0, 0), (3, 0)]) rfl ?_
  refine xk_push rfl (p := 3) rfl ?_
  refine xk_store rfl (p := 4) rfl (by decide) (Nat.le_of_ble_eq_true rfl) (ls' := [(0, 0), (0, 0), (0, 0), (0, 0)]) rfl ?_
  refine xk_load rfl (p := 5) rfl rfl ?_
  refine xk_push rfl (p := 6) rfl ?_
  refine xk_icmp rfl (p := 9) rfl (fun c6_1 => absurd c6_1 (show ¬ ((4 : Int) ≤ (0 : Int)) by decide)) (fun c6_1 => ?_)
  refine xk_load rfl (p := 10) rfl rfl ?_
  refine xk_if rfl (p := 13) rfl (fun c10_2 => absurd c10_2 (show ¬ ((0 : Int) < (0 : Int)) by decide)) (fun c10_2 => ?_)
  refine xk_load rfl (p := 14) rfl rfl ?_
  refine xk_push rfl (p := 15) rfl ?_
  refine xk_icmp rfl (p := 18) rfl (fun c15_3 => absurd c15_3 (show ¬ ((4 : Int) ≤ (0 : Int)) by decide)) (fun c15_3 => ?_)
  refine xk_load rfl (p := 19) rfl rfl ?_
  refine xk_load rfl (p := 20) rfl rfl ?_
  refine xk_icmp rfl (p := 23) rfl (fun c20_4 => absurd c20_4 (show ¬ (¬ (0 : Int) = (0 : Int)) by decide)) (fun c20_4 => ?_)
  refine xk_push rfl (p := 24) rfl ?_
  refine xk_rete rfl (rfl) ?_
  rfl

theorem c_under01 {d : Nat} {g : xG} {t : xD} (L : xLay g) (hK0 : t 1 0 = -1) (hK1 : t 1 1 = 0) (hK2 : t 1 2 = 0) (hK3 : t 1 3 = 1) : xCall (d) 111 [(0, 0), (0, 1)] g t (xQ g t (some (0, 0))) := by
  show xOk (d) 111 0 [(0, 0), (0, 1), (3, 0), (3, 0)] [] g t _
  refine xk_load rfl (p := 1) rfl rfl ?_
  refine xk_store rfl (p := 2) rfl (by decide) (Nat.le_of_ble_eq_true rfl) (ls' := [(0, 0), (0, 1), (0, 0), (3, 0)]) rfl ?_
  refine xk_push rfl (p := 3) rfl ?_
  refine xk_store rfl (p := 4) rfl (by decide) (Nat.le_of_ble_eq_true rfl) (ls' := [(0, 0), (0, 1), (0, 0), (0, 0)]) rfl ?_
  refine xk_load rfl (p := 5) rfl rfl ?_
  refine xk_push rfl (p := 6) rfl ?_
  refine xk_icmp rfl (p := 9) rfl (fun c6_1 => absurd c6_1 (show ¬ ((4 : Int) ≤ (0 : Int)) by decide)) (fun c6_1 => ?_)
  refine xk_load rfl (p := 10) rfl rfl ?_
  refine xk_if rfl (p := 13) rfl (fun c10_2 => absurd c10_2 (show ¬ ((0 : Int) < (0 : Int)) by decide)) (fun c10_2 => ?_)
  refine xk_load rfl (p := 14) rfl rfl ?_
  refine xk_push rfl (p := 15) rfl ?_
  refine xk_icmp rfl (p := 18) rfl (fun c15_3 => absurd c15_3 (show ¬ ((4 : Int) ≤ (0 : Int)) by decide)) (fun c15_3 => ?_)
  refine xk_load rfl (p := 19) rfl rfl ?_
  refine xk_load rfl (p := 20) rfl rfl ?_
  refine xk_icmp rfl (p := 23) rfl (fun c20_4 => ?_) (fun c20_4 => absurd (show ¬ (0 : Int) = (1 : Int) by decide) c20_4)
  refine xk_gets rfl (p := 28) rfl ?_
  refine xk_load rfl (p := 29) rfl rfl ?_
  refine xk_ald rfl (p := 30) rfl (v := (0, (-1))) ((xal0 (ly_ka L) (show 0 < 4 by omega)).trans (congrArg (fun z => some (0, z)) (hK0))) ?_
  refine xk_store rfl (p := 31) rfl (by decide) (Nat.le_of_ble_eq_true rfl) (ls' := [(0, 0), (0, 1), (0, (-1)), (0, 0)]) rfl ?_
  refine xk_iinc rfl (p := 34) rfl (x := 0) rfl (ls' := [(0, 0), (0, 1), (0, (-1)), (0, 1)]) rfl ?_
  refine xk_goto rfl ?_
  refine xk_load rfl (p := 5) rfl rfl ?_
  refine xk_push rfl (p := 6) rfl ?_
  refine xk_icmp rfl (p := 9) rfl (fun c6_5 => absurd c6_5 (show ¬ ((4 : Int) ≤ (1 : Int)) by decide)) (fun c6_5 => ?_)
  refine xk_load rfl (p := 10) rfl rfl ?_
  refine xk_if rfl (p := 13) rfl (fun c10_6 => ?_) (fun c10_6 => absurd (show ((-1) : Int) < (0 : Int) by decide) c10_6)
  refine xk_push rfl (p := 38) rfl ?_
  refine xk_rete rfl (rfl) ?_
  rfl

theorem c_under02 {d : Nat} {g : xG} {t : xD} (L : xLay g) (hK0 : t 1 0 = -1) (hK1 : t 1 1 = 0) (hK2 : t 1 2 = 0) (hK3 : t 1 3 = 1) : xCall (d) 111 [(0, 0), (0, 2)] g t (xQ g t (some (0, 0))) := by
  show xOk (d) 111 0 [(0, 0), (0, 2), (3, 0), (3, 0)] [] g t _
  refine xk_load rfl (p := 1) rfl rfl ?_
  refine xk_store rfl (p := 2) rfl (by decide) (Nat.le_of_ble_eq_true rfl) (ls' := [(0, 0), (0, 2), (0, 0), (3, 0)]) rfl ?_
  refine xk_push rfl (p := 3) rfl ?_
  refine xk_store rfl (p := 4) rfl (by decide) (Nat.le_of_ble_eq_true rfl) (ls' := [(0, 0), (0, 2), (0, 0), (0, 0)]) rfl ?_
  refine xk_load rfl (p := 5) rfl rfl ?_
  refine xk_push rfl (p := 6) rfl ?_
  refine xk_icmp rfl (p := 9) rfl (fun c6_1 => absurd c6_1 (show ¬ ((4 : Int) ≤ (0 : Int)) by decide)) (fun c6_1 => ?_)
  refine xk_load rfl (p := 10) rfl rfl ?_
  refine xk_if rfl (p := 13) rfl (fun c10_2 => absurd c10_2 (show ¬ ((0 : Int) < (0 : Int)) by decide)) (fun c10_2 => ?_)
  refine xk_load rfl (p := 14) rfl rfl ?_
  refine xk_push rfl (p := 15) rfl ?_
  refine xk_icmp rfl (p := 18) rfl (fun c15_3 => absurd c15_3 (show ¬ ((4 : Int) ≤ (0 : Int)) by decide)) (fun c15_3 => ?_)
  refine xk_load rfl (p := 19) rfl rfl ?_
  refine xk_load rfl (p := 20) rfl rfl ?_
  refine xk_icmp rfl (p := 23) rfl (fun c20_4 => ?_) (fun c20_4 => absurd (show ¬ (0 : Int) = (2 : Int) by decide) c20_4)
  refine xk_gets rfl (p := 28) rfl ?_
  refine xk_load rfl (p := 29) rfl rfl ?_
  refine xk_ald rfl (p := 30) rfl (v := (0, (-1))) ((xal0 (ly_ka L) (show 0 < 4 by omega)).trans (congrArg (fun z => some (0, z)) (hK0))) ?_
  refine xk_store rfl (p := 31) rfl (by decide) (Nat.le_of_ble_eq_true rfl) (ls' := [(0, 0), (0, 2), (0, (-1)), (0, 0)]) rfl ?_
  refine xk_iinc rfl (p := 34) rfl (x := 0) rfl (ls' := [(0, 0), (0, 2), (0, (-1)), (0, 1)]) rfl ?_
  refine xk_goto rfl ?_
  refine xk_load rfl (p := 5) rfl rfl ?_
  refine xk_push rfl (p := 6) rfl ?_
  refine xk_icmp rfl (p := 9) rfl (fun c6_5 => absurd c6_5 (show ¬ ((4 : Int) ≤ (1 : Int)) by decide)) (fun c6_5 => ?_)
  refine xk_load rfl (p := 10) rfl rfl ?_
  refine xk_if rfl (p := 13) rfl (fun c10_6 => ?_) (fun c10_6 => absurd (show ((-1) : Int) < (0 : Int) by decide) c10_6)
  refine xk_push rfl (p := 38) rfl ?_
  refine xk_rete rfl (rfl) ?_
  rfl

theorem c_under03 {d : Nat} {g : xG} {t : xD} (L : xLay g) (hK0 : t 1 0 = -1) (hK1 : t 1 1 = 0) (hK2 : t 1 2 = 0) (hK3 : t 1 3 = 1) : xCall (d) 111 [(0, 0), (0, 3)] g t (xQ g t (some (0, 0))) := by
  show xOk (d) 111 0 [(0, 0), (0, 3), (3, 0), (3, 0)] [] g t _
  refine xk_load rfl (p := 1) rfl rfl ?_
  refine xk_store rfl (p := 2) rfl (by decide) (Nat.le_of_ble_eq_true rfl) (ls' := [(0, 0), (0, 3), (0, 0), (3, 0)]) rfl ?_
  refine xk_push rfl (p := 3) rfl ?_
  refine xk_store rfl (p := 4) rfl (by decide) (Nat.le_of_ble_eq_true rfl) (ls' := [(0, 0), (0, 3), (0, 0), (0, 0)]) rfl ?_
  refine xk_load rfl (p := 5) rfl rfl ?_
  refine xk_push rfl (p := 6) rfl ?_
  refine xk_icmp rfl (p := 9) rfl (fun c6_1 => absurd c6_1 (show ¬ ((4 : Int) ≤ (0 : Int)) by decide)) (fun c6_1 => ?_)
  refine xk_load rfl (p := 10) rfl rfl ?_
  refine xk_if rfl (p := 13) rfl (fun c10_2 => absurd c10_2 (show ¬ ((0 : Int) < (0 : Int)) by decide)) (fun c10_2 => ?_)
  refine xk_load rfl (p := 14) rfl rfl ?_
  refine xk_push rfl (p := 15) rfl ?_
  refine xk_icmp rfl (p := 18) rfl (fun c15_3 => absurd c15_3 (show ¬ ((4 : Int) ≤ (0 : Int)) by decide)) (fun c15_3 => ?_)
  refine xk_load rfl (p := 19) rfl rfl ?_
  refine xk_load rfl (p := 20) rfl rfl ?_
  refine xk_icmp rfl (p := 23) rfl (fun c20_4 => ?_) (fun c20_4 => absurd (show ¬ (0 : Int) = (3 : Int) by decide) c20_4)
  refine xk_gets rfl (p := 28) rfl ?_
  refine xk_load rfl (p := 29) rfl rfl ?_
  refine xk_ald rfl (p := 30) rfl (v := (0, (-1))) ((xal0 (ly_ka L) (show 0 < 4 by omega)).trans (congrArg (fun z => some (0, z)) (hK0))) ?_
  refine xk_store rfl (p := 31) rfl (by decide) (Nat.le_of_ble_eq_true rfl) (ls' := [(0, 0), (0, 3), (0, (-1)), (0, 0)]) rfl ?_
  refine xk_iinc rfl (p := 34) rfl (x := 0) rfl (ls' := [(0, 0), (0, 3), (0, (-1)), (0, 1)]) rfl ?_
  refine xk_goto rfl ?_
  refine xk_load rfl (p := 5) rfl rfl ?_
  refine xk_push rfl (p := 6) rfl ?_
  refine xk_icmp rfl (p := 9) rfl (fun c6_5 => absurd c6_5 (show ¬ ((4 : Int) ≤ (1 : Int)) by decide)) (fun c6_5 => ?_)
  refine xk_load rfl (p := 10) rfl rfl ?_
  refine xk_if rfl (p := 13) rfl (fun c10_6 => ?_) (fun c10_6 => absurd (show ((-1) : Int) < (0 : Int) by decide) c10_6)
  refine xk_push rfl (p := 38) rfl ?_
  refine xk_rete rfl (rfl) ?_
  rfl

theorem c_under10 {d : Nat} {g : xG} {t : xD} (L : xLay g) (hK0 : t 1 0 = -1) (hK1 : t 1 1 = 0) (hK2 : t 1 2 = 0) (hK3 : t 1 3 = 1) : xCall (d) 111 [(0, 1), (0, 0)] g t (xQ g t (some (0, 1))) := by
  show xOk (d) 111 0 [(0, 1), (0, 0), (3, 0), (3, 0)] [] g t _
  refine xk_load rfl (p := 1) rfl rfl ?_
  refine xk_store rfl (p := 2) rfl (by decide) (Nat.le_of_ble_eq_true rfl) (ls' := [(0, 1), (0, 0), (0, 1), (3, 0)]) rfl ?_
  refine xk_push rfl (p := 3) rfl ?_
  refine xk_store rfl (p := 4) rfl (by decide) (Nat.le_of_ble_eq_true rfl) (ls' := [(0, 1), (0, 0), (0, 1), (0, 0)]) rfl ?_
  refine xk_load rfl (p := 5) rfl rfl ?_
  refine xk_push rfl (p := 6) rfl ?_
  refine xk_icmp rfl (p := 9) rfl (fun c6_1 => absurd c6_1 (show ¬ ((4 : Int) ≤ (0 : Int)) by decide)) (fun c6_1 => ?_)
  refine xk_load rfl (p := 10) rfl rfl ?_
  refine xk_if rfl (p := 13) rfl (fun c10_2 => absurd c10_2 (show ¬ ((1 : Int) < (0 : Int)) by decide)) (fun c10_2 => ?_)
  refine xk_load rfl (p := 14) rfl rfl ?_
  refine xk_push rfl (p := 15) rfl ?_
  refine xk_icmp rfl (p := 18) rfl (fun c15_3 => absurd c15_3 (show ¬ ((4 : Int) ≤ (1 : Int)) by decide)) (fun c15_3 => ?_)
  refine xk_load rfl (p := 19) rfl rfl ?_
  refine xk_load rfl (p := 20) rfl rfl ?_
  refine xk_icmp rfl (p := 23) rfl (fun c20_4 => ?_) (fun c20_4 => absurd (show ¬ (1 : Int) = (0 : Int) by decide) c20_4)
  refine xk_gets rfl (p := 28) rfl ?_
  refine xk_load rfl (p := 29) rfl rfl ?_
  refine xk_ald rfl (p := 30) rfl (v := (0, 0)) ((xal0 (ly_ka L) (show 1 < 4 by omega)).trans (congrArg (fun z => some (0, z)) (hK1))) ?_
  refine xk_store rfl (p := 31) rfl (by decide) (Nat.le_of_ble_eq_true rfl) (ls' := [(0, 1), (0, 0), (0, 0), (0, 0)]) rfl ?_
  refine xk_iinc rfl (p := 34) rfl (x := 0) rfl (ls' := [(0, 1), (0, 0), (0, 0), (0, 1)]) rfl ?_
  refine xk_goto rfl ?_
  refine xk_load rfl (p := 5) rfl rfl ?_
  refine xk_push rfl (p := 6) rfl ?_
  refine xk_icmp rfl (p := 9) rfl (fun c6_5 => absurd c6_5 (show ¬ ((4 : Int) ≤ (1 : Int)) by decide)) (fun c6_5 => ?_)
  refine xk_load rfl (p := 10) rfl rfl ?_
  refine xk_if rfl (p := 13) rfl (fun c10_6 => absurd c10_6 (show ¬ ((0 : Int) < (0 : Int)) by decide)) (fun c10_6 => ?_)
  refine xk_load rfl (p := 14) rfl rfl ?_
  refine xk_push rfl (p := 15) rfl ?_
  refine xk_icmp rfl (p := 18) rfl (fun c15_7 => absurd c15_7 (show ¬ ((4 : Int) ≤ (0 : Int)) by decide)) (fun c15_7 => ?_)
  refine xk_load rfl (p := 19) rfl rfl ?_
  refine xk_load rfl (p := 20) rfl rfl ?_
  refine xk_icmp rfl (p := 23) rfl (fun c20_8 => absurd c20_8 (show ¬ (¬ (0 : Int) = (0 : Int)) by decide)) (fun c20_8 => ?_)
  refine xk_push rfl (p := 24) rfl ?_
  refine xk_rete rfl (rfl) ?_
  rfl

theorem c_under11 {d : Nat} {g : xG} {t : xD} (L : xLay g) (hK0 : t 1 0 = -1) (hK1 : t 1 1 = 0) (hK2 : t 1 2 = 0) (hK3 : t 1 3 = 1) : xCall (d) 111 [(0, 1), (0, 1)] g t (xQ g t (some (0, 1))) := by
  show xOk (d) 111 0 [(0, 1), (0, 1), (3, 0), (3, 0)] [] g t _
  refine xk_load rfl (p := 1) rfl rfl ?_
  refine xk_store rfl (p := 2) rfl (by decide) (Nat.le_of_ble_eq_true rfl) (ls' := [(0, 1), (0, 1), (0, 1), (3, 0)]) rfl ?_
  refine xk_push rfl (p := 3) rfl ?_
  refine xk_store rfl (p := 4) rfl (by decide) (Nat.le_of_ble_eq_true rfl) (ls' := [(0, 1), (0, 1), (0, 1), (0, 0)]) rfl ?_
  refine xk_load rfl (p := 5) rfl rfl ?_
  refine xk_push rfl (p := 6) rfl ?_
  refine xk_icmp rfl (p := 9) rfl (fun c6_1 => absurd c6_1 (show ¬ ((4 : Int) ≤ (0 : Int)) by decide)) (fun c6_1 => ?_)
  refine xk_load rfl (p := 10) rfl rfl ?_
  refine xk_if rfl (p := 13) rfl (fun c10_2 => absurd c10_2 (show ¬ ((1 : Int) < (0 : Int)) by decide)) (fun c10_2 => ?_)
  refine xk_load rfl (p := 14) rfl rfl ?_
  refine xk_push rfl (p := 15) rfl ?_
  refine xk_icmp rfl (p := 18) rfl (fun c15_3 => absurd c15_3 (show ¬ ((4 : Int) ≤ (1 : Int)) by decide)) (fun c15_3 => ?_)
  refine xk_load rfl (p := 19) rfl rfl ?_
  refine xk_load rfl (p := 20) rfl rfl ?_
  refine xk_icmp rfl (p := 23) rfl (fun c20_4 => absurd c20_4 (show ¬ (¬ (1 : Int) = (1 : Int)) by decide)) (fun c20_4 => ?_)
  refine xk_push rfl (p := 24) rfl ?_
  refine xk_rete rfl (rfl) ?_
  rfl

theorem c_under12 {d : Nat} {g : xG} {t : xD} (L : xLay g) (hK0 : t 1 0 = -1) (hK1 : t 1 1 = 0) (hK2 : t 1 2 = 0) (hK3 : t 1 3 = 1) : xCall (d) 111 [(0, 1), (0, 2)] g t (xQ g t (some (0, 0))) := by
  show xOk (d) 111 0 [(0, 1), (0, 2), (3, 0), (3, 0)] [] g t _
  refine xk_load rfl (p := 1) rfl rfl ?_
  refine xk_store rfl (p := 2) rfl (by decide) (Nat.le_of_ble_eq_true rfl) (ls' := [(0, 1), (0, 2), (0, 1), (3, 0)]) rfl ?_
  refine xk_push rfl (p := 3) rfl ?_
  refine xk_store rfl (p := 4) rfl (by decide) (Nat.le_of_ble_eq_true rfl) (ls' := [(0, 1), (0, 2), (0, 1), (0, 0)]) rfl ?_
  refine xk_load rfl (p := 5) rfl rfl ?_
  refine xk_push rfl (p := 6) rfl ?_
  refine xk_icmp rfl (p := 9) rfl (fun c6_1 => absurd c6_1 (show ¬ ((4 : Int) ≤ (0 : Int)) by decide)) (fun c6_1 => ?_)
  refine xk_load rfl (p := 10) rfl rfl ?_
  refine xk_if rfl (p := 13) rfl (fun c10_2 => absurd c10_2 (show ¬ ((1 : Int) < (0 : Int)) by decide)) (fun c10_2 => ?_)
  refine xk_load rfl (p := 14) rfl rfl ?_
  refine xk_push rfl (p := 15) rfl ?_
  refine xk_icmp rfl (p := 18) rfl (fun c15_3 => absurd c15_3 (show ¬ ((4 : Int) ≤ (1 : Int)) by decide)) (fun c15_3 => ?_)
  refine xk_load rfl (p := 19) rfl rfl ?_
  refine xk_load rfl (p := 20) rfl rfl ?_
  refine xk_icmp rfl (p := 23) rfl (fun c20_4 => ?_) (fun c20_4 => absurd (show ¬ (1 : Int) = (2 : Int) by decide) c20_4)
  refine xk_gets rfl (p := 28) rfl ?_
  refine xk_load rfl (p := 29) rfl rfl ?_
  refine xk_ald rfl (p := 30) rfl (v := (0, 0)) ((xal0 (ly_ka L) (show 1 < 4 by omega)).trans (congrArg (fun z => some (0, z)) (hK1))) ?_
  refine xk_store rfl (p := 31) rfl (by decide) (Nat.le_of_ble_eq_true rfl) (ls' := [(0, 1), (0, 2), (0, 0), (0, 0)]) rfl ?_
  refine xk_iinc rfl (p := 34) rfl (x := 0) rfl (ls' := [(0, 1), (0, 2), (0, 0), (0, 1)]) rfl ?_
  refine xk_goto rfl ?_
  refine xk_load rfl (p := 5) rfl rfl ?_
  refine xk_push rfl (p := 6) rfl ?_
  refine xk_icmp rfl (p := 9) rfl (fun c6_5 => absurd c6_5 (show ¬ ((4 : Int) ≤ (1 : Int)) by decide)) (fun c6_5 => ?_)
  refine xk_load rfl (p := 10) rfl rfl ?_
  refine xk_if rfl (p := 13) rfl (fun c10_6 => absurd c10_6 (show ¬ ((0 : Int) < (0 : Int)) by decide)) (fun c10_6 => ?_)
  refine xk_load rfl (p := 14) rfl rfl ?_
  refine xk_push rfl (p := 15) rfl ?_
  refine xk_icmp rfl (p := 18) rfl (fun c15_7 => absurd c15_7 (show ¬ ((4 : Int) ≤ (0 : Int)) by decide)) (fun c15_7 => ?_)
  refine xk_load rfl (p := 19) rfl rfl ?_
  refine xk_load rfl (p := 20) rfl rfl ?_
  refine xk_icmp rfl (p := 23) rfl (fun c20_8 => ?_) (fun c20_8 => absurd (show ¬ (0 : Int) = (2 : Int) by decide) c20_8)
  refine xk_gets rfl (p := 28) rfl ?_
  refine xk_load rfl (p := 29) rfl rfl ?_
  refine xk_ald rfl (p := 30) rfl (v := (0, (-1))) ((xal0 (ly_ka L) (show 0 < 4 by omega)).trans (congrArg (fun z => some (0, z)) (hK0))) ?_
  refine xk_store rfl (p := 31) rfl (by decide) (Nat.le_of_ble_eq_true rfl) (ls' := [(0, 1), (0, 2), (0, (-1)), (0, 1)]) rfl ?_
  refine xk_iinc rfl (p := 34) rfl (x := 1) rfl (ls' := [(0, 1), (0, 2), (0, (-1)), (0, 2)]) rfl ?_
  refine xk_goto rfl ?_
  refine xk_load rfl (p := 5) rfl rfl ?_
  refine xk_push rfl (p := 6) rfl ?_
  refine xk_icmp rfl (p := 9) rfl (fun c6_9 => absurd c6_9 (show ¬ ((4 : Int) ≤ (2 : Int)) by decide)) (fun c6_9 => ?_)
  refine xk_load rfl (p := 10) rfl rfl ?_
  refine xk_if rfl (p := 13) rfl (fun c10_10 => ?_) (fun c10_10 => absurd (show ((-1) : Int) < (0 : Int) by decide) c10_10)
  refine xk_push rfl (p := 38) rfl ?_
  refine xk_rete rfl (rfl) ?_
  rfl

theorem c_under13 {d : Nat} {g : xG} {t : xD} (L : xLay g) (hK0 : t 1 0 = -1) (hK1 : t 1 1 = 0) (hK2 : t 1 2 = 0) (hK3 : t 1 3 = 1) : xCall (d) 111 [(0, 1), (0, 3)] g t (xQ g t (some (0, 0))) := by
  show xOk (d) 111 0 [(0, 1), (0, 3), (3, 0), (3, 0)] [] g t _
  refine xk_load rfl (p := 1) rfl rfl ?_
  refine xk_store rfl (p := 2) rfl (by decide) (Nat.le_of_ble_eq_true rfl) (ls' := [(0, 1), (0, 3), (0, 1), (3, 0)]) rfl ?_
  refine xk_push rfl (p := 3) rfl ?_
  refine xk_store rfl (p := 4) rfl (by decide) (Nat.le_of_ble_eq_true rfl) (ls' := [(0, 1), (0, 3), (0, 1), (0, 0)]) rfl ?_
  refine xk_load rfl (p := 5) rfl rfl ?_
  refine xk_push rfl (p := 6) rfl ?_
  refine xk_icmp rfl (p := 9) rfl (fun c6_1 => absurd c6_1 (show ¬ ((4 : Int) ≤ (0 : Int)) by decide)) (fun c6_1 => ?_)
  refine xk_load rfl (p := 10) rfl rfl ?_
  refine xk_if rfl (p := 13) rfl (fun c10_2 => absurd c10_2 (show ¬ ((1 : Int) < (0 : Int)) by decide)) (fun c10_2 => ?_)
  refine xk_load rfl (p := 14) rfl rfl ?_
  refine xk_push rfl (p := 15) rfl ?_
  refine xk_icmp rfl (p := 18) rfl (fun c15_3 => absurd c15_3 (show ¬ ((4 : Int) ≤ (1 : Int)) by decide)) (fun c15_3 => ?_)
  refine xk_load rfl (p := 19) rfl rfl ?_
  refine xk_load rfl (p := 20) rfl rfl ?_
  refine xk_icmp rfl (p := 23) rfl (fun c20_4 => ?_) (fun c20_4 => absurd (show ¬ (1 : Int) = (3 : Int) by decide) c20_4)
  refine xk_gets rfl (p := 28) rfl ?_
  refine xk_load rfl (p := 29) rfl rfl ?_
  refine xk_ald rfl (p := 30) rfl (v := (0, 0)) ((xal0 (ly_ka L) (show 1 < 4 by omega)).trans (congrArg (fun z => some (0, z)) (hK1))) ?_
  refine xk_store rfl (p := 31) rfl (by decide) (Nat.le_of_ble_eq_true rfl) (ls' := [(0, 1), (0, 3), (0, 0), (0, 0)]) rfl ?_
  refine xk_iinc rfl (p := 34) rfl (x := 0) rfl (ls' := [(0, 1), (0, 3), (0, 0), (0, 1)]) rfl ?_
  refine xk_goto rfl ?_
  refine xk_load rfl (p := 5) rfl rfl ?_
  refine xk_push rfl (p := 6) rfl ?_
  refine xk_icmp rfl (p := 9) rfl (fun c6_5 => absurd c6_5 (show ¬ ((4 : Int) ≤ (1 : Int)) by decide)) (fun c6_5 => ?_)
  refine xk_load rfl (p := 10) rfl rfl ?_
  refine xk_if rfl (p := 13) rfl (fun c10_6 => absurd c10_6 (show ¬ ((0 : Int) < (0 : Int)) by decide)) (fun c10_6 => ?_)
  refine xk_load rfl (p := 14) rfl rfl ?_
  refine xk_push rfl (p := 15) rfl ?_
  refine xk_icmp rfl (p := 18) rfl (fun c15_7 => absurd c15_7 (show ¬ ((4 : Int) ≤ (0 : Int)) by decide)) (fun c15_7 => ?_)
  refine xk_load rfl (p := 19) rfl rfl ?_
  refine xk_load rfl (p := 20) rfl rfl ?_
  refine xk_icmp rfl (p := 23) rfl (fun c20_8 => ?_) (fun c20_8 => absurd (show ¬ (0 : Int) = (3 : Int) by decide) c20_8)
  refine xk_gets rfl (p := 28) rfl ?_
  refine xk_load rfl (p := 29) rfl rfl ?_
  refine xk_ald rfl (p := 30) rfl (v := (0, (-1))) ((xal0 (ly_ka L) (show 0 < 4 by omega)).trans (congrArg (fun z => some (0, z)) (hK0))) ?_
  refine xk_store rfl (p := 31) rfl (by decide) (Nat.le_of_ble_eq_true rfl) (ls' := [(0, 1), (0, 3), (0, (-1)), (0, 1)]) rfl ?_
  refine xk_iinc rfl (p := 34) rfl (x := 1) rfl (ls' := [(0, 1), (0, 3), (0, (-1)), (0, 2)]) rfl ?_
  refine xk_goto rfl ?_
  refine xk_load rfl (p := 5) rfl rfl ?_
  refine xk_push rfl (p := 6) rfl ?_
  refine xk_icmp rfl (p := 9) rfl (fun c6_9 => absurd c6_9 (show ¬ ((4 : Int) ≤ (2 : Int)) by decide)) (fun c6_9 => ?_)
  refine xk_load rfl (p := 10) rfl rfl ?_
  refine xk_if rfl (p := 13) rfl (fun c10_10 => ?_) (fun c10_10 => absurd (show ((-1) : Int) < (0 : Int) by decide) c10_10)
  refine xk_push rfl (p := 38) rfl ?_
  refine xk_rete rfl (rfl) ?_
  rfl

theorem c_under20 {d : Nat} {g : xG} {t : xD} (L : xLay g) (hK0 : t 1 0 = -1) (hK1 : t 1 1 = 0) (hK2 : t 1 2 = 0) (hK3 : t 1 3 = 1) : xCall (d) 111 [(0, 2), (0, 0)] g t (xQ g t (some (0, 1))) := by
  show xOk (d) 111 0 [(0, 2), (0, 0), (3, 0), (3, 0)] [] g t _
  refine xk_load rfl (p := 1) rfl rfl ?_
  refine xk_store rfl (p := 2) rfl (by decide) (Nat.le_of_ble_eq_true rfl) (ls' := [(0, 2), (0, 0), (0, 2), (3, 0)]) rfl ?_
  refine xk_push rfl (p := 3) rfl ?_
  refine xk_store rfl (p := 4) rfl (by decide) (Nat.le_of_ble_eq_true rfl) (ls' := [(0, 2), (0, 0), (0, 2), (0, 0)]) rfl ?_
  refine xk_load rfl (p := 5) rfl rfl ?_
  refine xk_push rfl (p := 6) rfl ?_
  refine xk_icmp rfl (p := 9) rfl (fun c6_1 => absurd c6_1 (show ¬ ((4 : Int) ≤ (0 : Int)) by decide)) (fun c6_1 => ?_)
  refine xk_load rfl (p := 10) rfl rfl ?_
  refine xk_if rfl (p := 13) rfl (fun c10_2 => absurd c10_2 (show ¬ ((2 : Int) < (0 : Int)) by decide)) (fun c10_2 => ?_)
  refine xk_load rfl (p := 14) rfl rfl ?_
  refine xk_push rfl (p := 15) rfl ?_
  refine xk_icmp rfl (p := 18) rfl (fun c15_3 => absurd c15_3 (show ¬ ((4 : Int) ≤ (2 : Int)) by decide)) (fun c15_3 => ?_)
  refine xk_load rfl (p := 19) rfl rfl ?_
  refine xk_load rfl (p := 20) rfl rfl ?_
  refine xk_icmp rfl (p := 23) rfl (fun c20_4 => ?_) (fun c20_4 => absurd (show ¬ (2 : Int) = (0 : Int) by decide) c20_4)
  refine xk_gets rfl (p := 28) rfl ?_
  refine xk_load rfl (p := 29) rfl rfl ?_
  refine xk_ald rfl (p := 30) rfl (v := (0, 0)) ((xal0 (ly_ka L) (show 2 < 4 by omega)).trans (congrArg (fun z => some (0, z)) (hK2))) ?_
  refine xk_store rfl (p := 31) rfl (by decide) (Nat.le_of_ble_eq_true rfl) (ls' := [(0, 2), (0, 0), (0, 0), (0, 0)]) rfl ?_
  refine xk_iinc rfl (p := 34) rfl (x := 0) rfl (ls' := [(0, 2), (0, 0), (0, 0), (0, 1)]) rfl ?_
  refine xk_goto rfl ?_
  refine xk_load rfl (p := 5) rfl rfl ?_
  refine xk_push rfl (p := 6) rfl ?_
  refine xk_icmp rfl (p := 9) rfl (fun c6_5 => absurd c6_5 (show ¬ ((4 : Int) ≤ (1 : Int)) by decide)) (fun c6_5 => ?_)
  refine xk_load rfl (p := 10) rfl rfl ?_
  refine xk_if rfl (p := 13) rfl (fun c10_6 => absurd c10_6 (show ¬ ((0 : Int) < (0 : Int)) by decide)) (fun c10_6 => ?_)
  refine xk_load rfl (p := 14) rfl rfl ?_
  refine xk_push rfl (p := 15) rfl ?_
  refine xk_icmp rfl (p := 18) rfl (fun c15_7 => absurd c15_7 (show ¬ ((4 : Int) ≤ (0 : Int)) by decide)) (fun c15_7 => ?_)
  refine xk_load rfl (p := 19) rfl rfl ?_
  refine xk_load rfl (p := 20) rfl rfl ?_
  refine xk_icmp rfl (p := 23) rfl (fun c20_8 => absurd c20_8 (show ¬ (¬ (0 : Int) = (0 : Int)) by decide)) (fun c20_8 => ?_)
  refine xk_push rfl (p := 24) rfl ?_
  refine xk_rete rfl (rfl) ?_
  rfl

theorem c_under21 {d : Nat} {g : xG} {t : xD} (L : xLay g) (hK0 : t 1 0 = -1) (hK1 : t 1 1 = 0) (hK2 : t 1 2 = 0) (hK3 : t 1 3 = 1) : xCall (d) 111 [(0, 2), (0, 1)] g t (xQ g t (some (0, 0))) := by
  show xOk (d) 111 0 [(0, 2), (0, 1), (3, 0), (3, 0)] [] g t _
  refine xk_load rfl (p := 1) rfl rfl ?_
  refine xk_store rfl (p := 2) rfl (by decide) (Nat.le_of_ble_eq_true rfl) (ls' := [(0, 2), (0, 1), (0, 2), (3, 0)]) rfl ?_
  refine xk_push rfl (p := 3) rfl ?_
  refine xk_store rfl (p := 4) rfl (by decide) (Nat.le_of_ble_eq_true rfl) (ls' := [(0, 2), (0, 1), (0, 2), (0, 0)]) rfl ?_
  refine xk_load rfl (p := 5) rfl rfl ?_
  refine xk_push rfl (p := 6) rfl ?_
  refine xk_icmp rfl (p := 9) rfl (fun c6_1 => absurd c6_1 (show ¬ ((4 : Int) ≤ (0 : Int)) by decide)) (fun c6_1 => ?_)
  refine xk_load rfl (p := 10) rfl rfl ?_
  refine xk_if rfl (p := 13) rfl (fun c10_2 => absurd c10_2 (show ¬ ((2 : Int) < (0 : Int)) by decide)) (fun c10_2 => ?_)
  refine xk_load rfl (p := 14) rfl rfl ?_
  refine xk_push rfl (p := 15) rfl ?_
  refine xk_icmp rfl (p := 18) rfl (fun c15_3 => absurd c15_3 (show ¬ ((4 : Int) ≤ (2 : Int)) by decide)) (fun c15_3 => ?_)
  refine xk_load rfl (p := 19) rfl rfl ?_
  refine xk_load rfl (p := 20) rfl rfl ?_
  refine xk_icmp rfl (p := 23) rfl (fun c20_4 => ?_) (fun c20_4 => absurd (show ¬ (2 : Int) = (1 : Int) by decide) c20_4)
  refine xk_gets rfl (p := 28) rfl ?_
  refine xk_load rfl (p := 29) rfl rfl ?_
  refine xk_ald rfl (p := 30) rfl (v := (0, 0)) ((xal0 (ly_ka L) (show 2 < 4 by omega)).trans (congrArg (fun z => some (0, z)) (hK2))) ?_
  refine xk_store rfl (p := 31) rfl (by decide) (Nat.le_of_ble_eq_true rfl) (ls' := [(0, 2), (0, 1), (0, 0), (0, 0)]) rfl ?_
  refine xk_iinc rfl (p := 34) rfl (x := 0) rfl (ls' := [(0, 2), (0, 1), (0, 0), (0, 1)]) rfl ?_
  refine xk_goto rfl ?_
  refine xk_load rfl (p := 5) rfl rfl ?_
  refine xk_push rfl (p := 6) rfl ?_
  refine xk_icmp rfl (p := 9) rfl (fun c6_5 => absurd c6_5 (show ¬ ((4 : Int) ≤ (1 : Int)) by decide)) (fun c6_5 => ?_)
  refine xk_load rfl (p := 10) rfl rfl ?_
  refine xk_if rfl (p := 13) rfl (fun c10_6 => absurd c10_6 (show ¬ ((0 : Int) < (0 : Int)) by decide)) (fun c10_6 => ?_)
  refine xk_load rfl (p := 14) rfl rfl ?_
  refine xk_push rfl (p := 15) rfl ?_
  refine xk_icmp rfl (p := 18) rfl (fun c15_7 => absurd c15_7 (show ¬ ((4 : Int) ≤ (0 : Int)) by decide)) (fun c15_7 => ?_)
  refine xk_load rfl (p := 19) rfl rfl ?_
  refine xk_load rfl (p := 20) rfl rfl ?_
  refine xk_icmp rfl (p := 23) rfl (fun c20_8 => ?_) (fun c20_8 => absurd (show ¬ (0 : Int) = (1 : Int) by decide) c20_8)
  refine xk_gets rfl (p := 28) rfl ?_
  refine xk_load rfl (p := 29) rfl rfl ?_
  refine xk_ald rfl (p := 30) rfl (v := (0, (-1))) ((xal0 (ly_ka L) (show 0 < 4 by omega)).trans (congrArg (fun z => some (0, z)) (hK0))) ?_
  refine xk_store rfl (p := 31) rfl (by decide) (Nat.le_of_ble_eq_true rfl) (ls' := [(0, 2), (0, 1), (0, (-1)), (0, 1)]) rfl ?_
  refine xk_iinc rfl (p := 34) rfl (x := 1) rfl (ls' := [(0, 2), (0, 1), (0, (-1)), (0, 2)]) rfl ?_
  refine xk_goto rfl ?_
  refine xk_load rfl (p := 5) rfl rfl ?_
  refine xk_push rfl (p := 6) rfl ?_
  refine xk_icmp rfl (p := 9) rfl (fun c6_9 => absurd c6_9 (show ¬ ((4 : Int) ≤ (2 : Int)) by decide)) (fun c6_9 => ?_)
  refine xk_load rfl (p := 10) rfl rfl ?_
  refine xk_if rfl (p := 13) rfl (fun c10_10 => ?_) (fun c10_10 => absurd (show ((-1) : Int) < (0 : Int) by decide) c10_10)
  refine xk_push rfl (p := 38) rfl ?_
  refine xk_rete rfl (rfl) ?_
  rfl

theorem c_under22 {d : Nat} {g : xG} {t : xD} (L : xLay g) (hK0 : t 1 0 = -1) (hK1 : t 1 1 = 0) (hK2 : t 1 2 = 0) (hK3 : t 1 3 = 1) : xCall (d) 111 [(0, 2), (0, 2)] g t (xQ g t (some (0, 1))) := by
  show xOk (d) 111 0 [(0, 2), (0, 2), (3, 0), (3, 0)] [] g t _
  refine xk_load rfl (p := 1) rfl rfl ?_
  refine xk_store rfl (p := 2) rfl (by decide) (Nat.le_of_ble_eq_true rfl) (ls' := [(0, 2), (0, 2), (0, 2), (3, 0)]) rfl ?_
  refine xk_push rfl (p := 3) rfl ?_
  refine xk_store rfl (p := 4) rfl (by decide) (Nat.le_of_ble_eq_true rfl) (ls' := [(0, 2), (0, 2), (0, 2), (0, 0)]) rfl ?_
  refine xk_load rfl (p := 5) rfl rfl ?_
  refine xk_push rfl (p := 6) rfl ?_
  refine xk_icmp rfl (p := 9) rfl (fun c6_1 => absurd c6_1 (show ¬ ((4 : Int) ≤ (0 : Int)) by decide)) (fun c6_1 => ?_)
  refine xk_load rfl (p := 10) rfl rfl ?_
  refine xk_if rfl (p := 13) rfl (fun c10_2 => absurd c10_2 (show ¬ ((2 : Int) < (0 : Int)) by decide)) (fun c10_2 => ?_)
  refine xk_load rfl (p := 14) rfl rfl ?_
  refine xk_push rfl (p := 15) rfl ?_
  refine xk_icmp rfl (p := 18) rfl (fun c15_3 => absurd c15_3 (show ¬ ((4 : Int) ≤ (2 : Int)) by decide)) (fun c15_3 => ?_)
  refine xk_load rfl (p := 19) rfl rfl ?_
  refine xk_load rfl (p := 20) rfl rfl ?_
  refine xk_icmp rfl (p := 23) rfl (fun c20_4 => absurd c20_4 (show ¬ (¬ (2 : Int) = (2 : Int)) by decide)) (fun c20_4 => ?_)
  refine xk_push rfl (p := 24) rfl ?_
  refine xk_rete rfl (rfl) ?_
  rfl

theorem c_under23 {d : Nat} {g : xG} {t : xD} (L : xLay g) (hK0 : t 1 0 = -1) (hK1 : t 1 1 = 0) (hK2 : t 1 2 = 0) (hK3 : t 1 3 = 1) : xCall (d) 111 [(0, 2), (0, 3)] g t (xQ g t (some (0, 0))) := by
  show xOk (d) 111 0 [(0, 2), (0, 3), (3, 0), (3, 0)] [] g t _
  refine xk_load rfl (p := 1) rfl rfl ?_
  refine xk_store rfl (p := 2) rfl (by decide) (Nat.le_of_ble_eq_true rfl) (ls' := [(0, 2), (0, 3), (0, 2), (3, 0)]) rfl ?_
  refine xk_push rfl (p := 3) rfl ?_
  refine xk_store rfl (p := 4) rfl (by decide) (Nat.le_of_ble_eq_true rfl) (ls' := [(0, 2), (0, 3), (0, 2), (0, 0)]) rfl ?_
  refine xk_load rfl (p := 5) rfl rfl ?_
  refine xk_push rfl (p := 6) rfl ?_
  refine xk_icmp rfl (p := 9) rfl (fun c6_1 => absurd c6_1 (show ¬ ((4 : Int) ≤ (0 : Int)) by decide)) (fun c6_1 => ?_)
  refine xk_load rfl (p := 10) rfl rfl ?_
  refine xk_if rfl (p := 13) rfl (fun c10_2 => absurd c10_2 (show ¬ ((2 : Int) < (0 : Int)) by decide)) (fun c10_2 => ?_)
  refine xk_load rfl (p := 14) rfl rfl ?_
  refine xk_push rfl (p := 15) rfl ?_
  refine xk_icmp rfl (p := 18) rfl (fun c15_3 => absurd c15_3 (show ¬ ((4 : Int) ≤ (2 : Int)) by decide)) (fun c15_3 => ?_)
  refine xk_load rfl (p := 19) rfl rfl ?_
  refine xk_load rfl (p := 20) rfl rfl ?_
  refine xk_icmp rfl (p := 23) rfl (fun c20_4 => ?_) (fun c20_4 => absurd (show ¬ (2 : Int) = (3 : Int) by decide) c20_4)
  refine xk_gets rfl (p := 28) rfl ?_
  refine xk_load rfl (p := 29) rfl rfl ?_
  refine xk_ald rfl (p := 30) rfl (v := (0, 0)) ((xal0 (ly_ka L) (show 2 < 4 by omega)).trans (congrArg (fun z => some (0, z)) (hK2))) ?_
  refine xk_store rfl (p := 31) rfl (by decide) (Nat.le_of_ble_eq_true rfl) (ls' := [(0, 2), (0, 3), (0, 0), (0, 0)]) rfl ?_
  refine xk_iinc rfl (p := 34) rfl (x := 0) rfl (ls' := [(0, 2), (0, 3), (0, 0), (0, 1)]) rfl ?_
  refine xk_goto rfl ?_
  refine xk_load rfl (p := 5) rfl rfl ?_
  refine xk_push rfl (p := 6) rfl ?_
  refine xk_icmp rfl (p := 9) rfl (fun c6_5 => absurd c6_5 (show ¬ ((4 : Int) ≤ (1 : Int)) by decide)) (fun c6_5 => ?_)
  refine xk_load rfl (p := 10) rfl rfl ?_
  refine xk_if rfl (p := 13) rfl (fun c10_6 => absurd c10_6 (show ¬ ((0 : Int) < (0 : Int)) by decide)) (fun c10_6 => ?_)
  refine xk_load rfl (p := 14) rfl rfl ?_
  refine xk_push rfl (p := 15) rfl ?_
  refine xk_icmp rfl (p := 18) rfl (fun c15_7 => absurd c15_7 (show ¬ ((4 : Int) ≤ (0 : Int)) by decide)) (fun c15_7 => ?_)
  refine xk_load rfl (p := 19) rfl rfl ?_
  refine xk_load rfl (p := 20) rfl rfl ?_
  refine xk_icmp rfl (p := 23) rfl (fun c20_8 => ?_) (fun c20_8 => absurd (show ¬ (0 : Int) = (3 : Int) by decide) c20_8)
  refine xk_gets rfl (p := 28) rfl ?_
  refine xk_load rfl (p := 29) rfl rfl ?_
  refine xk_ald rfl (p := 30) rfl (v := (0, (-1))) ((xal0 (ly_ka L) (show 0 < 4 by omega)).trans (congrArg (fun z => some (0, z)) (hK0))) ?_
  refine xk_store rfl (p := 31) rfl (by decide) (Nat.le_of_ble_eq_true rfl) (ls' := [(0, 2), (0, 3), (0, (-1)), (0, 1)]) rfl ?_
  refine xk_iinc rfl (p := 34) rfl (x := 1) rfl (ls' := [(0, 2), (0, 3), (0, (-1)), (0, 2)]) rfl ?_
  refine xk_goto rfl ?_
  refine xk_load rfl (p := 5) rfl rfl ?_
  refine xk_push rfl (p := 6) rfl ?_
  refine xk_icmp rfl (p := 9) rfl (fun c6_9 => absurd c6_9 (show ¬ ((4 : Int) ≤ (2 : Int)) by decide)) (fun c6_9 => ?_)
  refine xk_load rfl (p := 10) rfl rfl ?_
  refine xk_if rfl (p := 13) rfl (fun c10_10 => ?_) (fun c10_10 => absurd (show ((-1) : Int) < (0 : Int) by decide) c10_10)
  refine xk_push rfl (p := 38) rfl ?_
  refine xk_rete rfl (rfl) ?_
  rfl

theorem c_under30 {d : Nat} {g : xG} {t : xD} (L : xLay g) (hK0 : t 1 0 = -1) (hK1 : t 1 1 = 0) (hK2 : t 1 2 = 0) (hK3 : t 1 3 = 1) : xCall (d) 111 [(0, 3), (0, 0)] g t (xQ g t (some (0, 1))) := by
  show xOk (d) 111 0 [(0, 3), (0, 0), (3, 0), (3, 0)] [] g t _
  refine xk_load rfl (p := 1) rfl rfl ?_
  refine xk_store rfl (p := 2) rfl (by decide) (Nat.le_of_ble_eq_true rfl) (ls' := [(0, 3), (0, 0), (0, 3), (3, 0)]) rfl ?_
  refine xk_push rfl (p := 3) rfl ?_
  refine xk_store rfl (p := 4) rfl (by decide) (Nat.le_of_ble_eq_true rfl) (ls' := [(0, 3), (0, 0), (0, 3), (0, 0)]) rfl ?_
  refine xk_load rfl (p := 5) rfl rfl ?_
  refine xk_push rfl (p := 6) rfl ?_
  refine xk_icmp rfl (p := 9) rfl (fun c6_1 => absurd c6_1 (show ¬ ((4 : Int) ≤ (0 : Int)) by decide)) (fun c6_1 => ?_)
  refine xk_load rfl (p := 10) rfl rfl ?_
  refine xk_if rfl (p := 13) rfl (fun c10_2 => absurd c10_2 (show ¬ ((3 : Int) < (0 : Int)) by decide)) (fun c10_2 => ?_)
  refine xk_load rfl (p := 14) rfl rfl ?_
  refine xk_push rfl (p := 15) rfl ?_
  refine xk_icmp rfl (p := 18) rfl (fun c15_3 => absurd c15_3 (show ¬ ((4 : Int) ≤ (3 : Int)) by decide)) (fun c15_3 => ?_)
  refine xk_load rfl (p := 19) rfl rfl ?_
  refine xk_load rfl (p := 20) rfl rfl ?_
  refine xk_icmp rfl (p := 23) rfl (fun c20_4 => ?_) (fun c20_4 => absurd (show ¬ (3 : Int) = (0 : Int) by decide) c20_4)
  refine xk_gets rfl (p := 28) rfl ?_
  refine xk_load rfl (p := 29) rfl rfl ?_
  refine xk_ald rfl (p := 30) rfl (v := (0, 1)) ((xal0 (ly_ka L) (show 3 < 4 by omega)).trans (congrArg (fun z => some (0, z)) (hK3))) ?_
  refine xk_store rfl (p := 31) rfl (by decide) (Nat.le_of_ble_eq_true rfl) (ls' := [(0, 3), (0, 0), (0, 1), (0, 0)]) rfl ?_
  refine xk_iinc rfl (p := 34) rfl (x := 0) rfl (ls' := [(0, 3), (0, 0), (0, 1), (0, 1)]) rfl ?_
  refine xk_goto rfl ?_
  refine xk_load rfl (p := 5) rfl rfl ?_
  refine xk_push rfl (p := 6) rfl ?_
  refine xk_icmp rfl (p := 9) rfl (fun c6_5 => absurd c6_5 (show ¬ ((4 : Int) ≤ (1 : Int)) by decide)) (fun c6_5 => ?_)
  refine xk_load rfl (p := 10) rfl rfl ?_
  refine xk_if rfl (p := 13) rfl (fun c10_6 => absurd c10_6 (show ¬ ((1 : Int) < (0 : Int)) by decide)) (fun c10_6 => ?_)
  refine xk_load rfl (p := 14) rfl rfl ?_
  refine xk_push rfl (p := 15) rfl ?_
  refine xk_icmp rfl (p := 18) rfl (fun c15_7 => absurd c15_7 (show ¬ ((4 : Int) ≤ (1 : Int)) by decide)) (fun c15_7 => ?_)
  refine xk_load rfl (p := 19) rfl rfl ?_
  refine xk_load rfl (p := 20) rfl rfl ?_
  refine xk_icmp rfl (p := 23) rfl (fun c20_8 => ?_) (fun c20_8 => absurd (show ¬ (1 : Int) = (0 : Int) by decide) c20_8)
  refine xk_gets rfl (p := 28) rfl ?_
  refine xk_load rfl (p := 29) rfl rfl ?_
  refine xk_ald rfl (p := 30) rfl (v := (0, 0)) ((xal0 (ly_ka L) (show 1 < 4 by omega)).trans (congrArg (fun z => some (0, z)) (hK1))) ?_
  refine xk_store rfl (p := 31) rfl (by decide) (Nat.le_of_ble_eq_true rfl) (ls' := [(0, 3), (0, 0), (0, 0), (0, 1)]) rfl ?_
  refine xk_iinc rfl (p := 34) rfl (x := 1) rfl (ls' := [(0, 3), (0, 0), (0, 0), (0, 2)]) rfl ?_
  refine xk_goto rfl ?_
  refine xk_load rfl (p := 5) rfl rfl ?_
  refine xk_push rfl (p := 6) rfl ?_
  refine xk_icmp rfl (p := 9) rfl (fun c6_9 => absurd c6_9 (show ¬ ((4 : Int) ≤ (2 : Int)) by decide)) (fun c6_9 => ?_)
  refine xk_load rfl (p := 10) rfl rfl ?_
  refine xk_if rfl (p := 13) rfl (fun c10_10 => absurd c10_10 (show ¬ ((0 : Int) < (0 : Int)) by decide)) (fun c10_10 => ?_)
  refine xk_load rfl (p := 14) rfl rfl ?_
  refine xk_push rfl (p := 15) rfl ?_
  refine xk_icmp rfl (p := 18) rfl (fun c15_11 => absurd c15_11 (show ¬ ((4 : Int) ≤ (0 : Int)) by decide)) (fun c15_11 => ?_)
  refine xk_load rfl (p := 19) rfl rfl ?_
  refine xk_load rfl (p := 20) rfl rfl ?_
  refine xk_icmp rfl (p := 23) rfl (fun c20_12 => absurd c20_12 (show ¬ (¬ (0 : Int) = (0 : Int)) by decide)) (fun c20_12 => ?_)
  refine xk_push rfl (p := 24) rfl ?_
  refine xk_rete rfl (rfl) ?_
  rfl

theorem c_under31 {d : Nat} {g : xG} {t : xD} (L : xLay g) (hK0 : t 1 0 = -1) (hK1 : t 1 1 = 0) (hK2 : t 1 2 = 0) (hK3 : t 1 3 = 1) : xCall (d) 111 [(0, 3), (0, 1)] g t (xQ g t (some (0, 1))) := by
  show xOk (d) 111 0 [(0, 3), (0, 1), (3, 0), (3, 0)] [] g t _
  refine xk_load rfl (p := 1) rfl rfl ?_
  refine xk_store rfl (p := 2) rfl (by decide) (Nat.le_of_ble_eq_true rfl) (ls' := [(0, 3), (0, 1), (0, 3), (3, 0)]) rfl ?_
  refine xk_push rfl (p := 3) rfl ?_
  refine xk_store rfl (p := 4) rfl (by decide) (Nat.le_of_ble_eq_true rfl) (ls' := [(0, 3), (0, 1), (0, 3), (0, 0)]) rfl ?_
  refine xk_load rfl (p := 5) rfl rfl ?_
  refine xk_push rfl (p := 6) rfl ?_
  refine xk_icmp rfl (p := 9) rfl (fun c6_1 => absurd c6_1 (show ¬ ((4 : Int) ≤ (0 : Int)) by decide)) (fun c6_1 => ?_)
  refine xk_load rfl (p := 10) rfl rfl ?_
  refine xk_if rfl (p := 13) rfl (fun c10_2 => absurd c10_2 (show ¬ ((3 : Int) < (0 : Int)) by decide)) (fun c10_2 => ?_)
  refine xk_load rfl (p := 14) rfl rfl ?_
  refine xk_push rfl (p := 15) rfl ?_
  refine xk_icmp rfl (p := 18) rfl (fun c15_3 => absurd c15_3 (show ¬ ((4 : Int) ≤ (3 : Int)) by decide)) (fun c15_3 => ?_)
  refine xk_load rfl (p := 19) rfl rfl ?_
  refine xk_load rfl (p := 20) rfl rfl ?_
  refine xk_icmp rfl (p := 23) rfl (fun c20_4 => ?_) (fun c20_4 => absurd (show ¬ (3 : Int) = (1 : Int) by decide) c20_4)
  refine xk_gets rfl (p := 28) rfl ?_
  refine xk_load rfl (p := 29) rfl rfl ?_
  refine xk_ald rfl (p := 30) rfl (v := (0, 1)) ((xal0 (ly_ka L) (show 3 < 4 by omega)).trans (congrArg (fun z => some (0, z)) (hK3))) ?_
  refine xk_store rfl (p := 31) rfl (by decide) (Nat.le_of_ble_eq_true rfl) (ls' := [(0, 3), (0, 1), (0, 1), (0, 0)]) rfl ?_
  refine xk_iinc rfl (p := 34) rfl (x := 0) rfl (ls' := [(0, 3), (0, 1), (0, 1), (0, 1)]) rfl ?_
  refine xk_goto rfl ?_
  refine xk_load rfl (p := 5) rfl rfl ?_
  refine xk_push rfl (p := 6) rfl ?_
  refine xk_icmp rfl (p := 9) rfl (fun c6_5 => absurd c6_5 (show ¬ ((4 : Int) ≤ (1 : Int)) by decide)) (fun c6_5 => ?_)
  refine xk_load rfl (p := 10) rfl rfl ?_
  refine xk_if rfl (p := 13) rfl (fun c10_6 => absurd c10_6 (show ¬ ((1 : Int) < (0 : Int)) by decide)) (fun c10_6 => ?_)
  refine xk_load rfl (p := 14) rfl rfl ?_
  refine xk_push rfl (p := 15) rfl ?_
  refine xk_icmp rfl (p := 18) rfl (fun c15_7 => absurd c15_7 (show ¬ ((4 : Int) ≤ (1 : Int)) by decide)) (fun c15_7 => ?_)
  refine xk_load rfl (p := 19) rfl rfl ?_
  refine xk_load rfl (p := 20) rfl rfl ?_
  refine xk_icmp rfl (p := 23) rfl (fun c20_8 => absurd c20_8 (show ¬ (¬ (1 : Int) = (1 : Int)) by decide)) (fun c20_8 => ?_)
  refine xk_push rfl (p := 24) rfl ?_
  refine xk_rete rfl (rfl) ?_
  rfl

theorem c_under32 {d : Nat} {g : xG} {t : xD} (L : xLay g) (hK0 : t 1 0 = -1) (hK1 : t 1 1 = 0) (hK2 : t 1 2 = 0) (hK3 : t 1 3 = 1) : xCall (d) 111 [(0, 3), (0, 2)] g t (xQ g t (some (0, 0))) := by
  show xOk (d) 111 0 [(0, 3), (0, 2), (3, 0), (3, 0)] [] g t _
  refine xk_load rfl (p := 1) rfl rfl ?_
  refine xk_store rfl (p := 2) rfl (by decide) (Nat.le_of_ble_eq_true rfl) (ls' := [(0, 3), (0, 2), (0, 3), (3, 0)]) rfl ?_
  refine xk_push rfl (p := 3) rfl ?_
  refine xk_store rfl (p := 4) rfl (by decide) (Nat.le_of_ble_eq_true rfl) (ls' := [(0, 3), (0, 2), (0, 3), (0, 0)]) rfl ?_
  refine xk_load rfl (p := 5) rfl rfl ?_
  refine xk_push rfl (p := 6) rfl ?_
  refine xk_icmp rfl (p := 9) rfl (fun c6_1 => absurd c6_1 (show ¬ ((4 : Int) ≤ (0 : Int)) by decide)) (fun c6_1 => ?_)
  refine xk_load rfl (p := 10) rfl rfl ?_
  refine xk_if rfl (p := 13) rfl (fun c10_2 => absurd c10_2 (show ¬ ((3 : Int) < (0 : Int)) by decide)) (fun c10_2 => ?_)
  refine xk_load rfl (p := 14) rfl rfl ?_
  refine xk_push rfl (p := 15) rfl ?_
  refine xk_icmp rfl (p := 18) rfl (fun c15_3 => absurd c15_3 (show ¬ ((4 : Int) ≤ (3 : Int)) by decide)) (fun c15_3 => ?_)
  refine xk_load rfl (p := 19) rfl rfl ?_
  refine xk_load rfl (p := 20) rfl rfl ?_
  refine xk_icmp rfl (p := 23) rfl (fun c20_4 => ?_) (fun c20_4 => absurd (show ¬ (3 : Int) = (2 : Int) by decide) c20_4)
  refine xk_gets rfl (p := 28) rfl ?_
  refine xk_load rfl (p := 29) rfl rfl ?_
  refine xk_ald rfl (p := 30) rfl (v := (0, 1)) ((xal0 (ly_ka L) (show 3 < 4 by omega)).trans (congrArg (fun z => some (0, z)) (hK3))) ?_
  refine xk_store rfl (p := 31) rfl (by decide) (Nat.le_of_ble_eq_true rfl) (ls' := [(0, 3), (0, 2), (0, 1), (0, 0)]) rfl ?_
  refine xk_iinc rfl (p := 34) rfl (x := 0) rfl (ls' := [(0, 3), (0, 2), (0, 1), (0, 1)]) rfl ?_
  refine xk_goto rfl ?_
  refine xk_load rfl (p := 5) rfl rfl ?_
  refine xk_push rfl (p := 6) rfl ?_
  refine xk_icmp rfl (p := 9) rfl (fun c6_5 => absurd c6_5 (show ¬ ((4 : Int) ≤ (1 : Int)) by decide)) (fun c6_5 => ?_)
  refine xk_load rfl (p := 10) rfl rfl ?_
  refine xk_if rfl (p := 13) rfl (fun c10_6 => absurd c10_6 (show ¬ ((1 : Int) < (0 : Int)) by decide)) (fun c10_6 => ?_)
  refine xk_load rfl (p := 14) rfl rfl ?_
  refine xk_push rfl (p := 15) rfl ?_
  refine xk_icmp rfl (p := 18) rfl (fun c15_7 => absurd c15_7 (show ¬ ((4 : Int) ≤ (1 : Int)) by decide)) (fun c15_7 => ?_)
  refine xk_load rfl (p := 19) rfl rfl ?_
  refine xk_load rfl (p := 20) rfl rfl ?_
  refine xk_icmp rfl (p := 23) rfl (fun c20_8 => ?_) (fun c20_8 => absurd (show ¬ (1 : Int) = (2 : Int) by decide) c20_8)
  refine xk_gets rfl (p := 28) rfl ?_
  refine xk_load rfl (p := 29) rfl rfl ?_
  refine xk_ald rfl (p := 30) rfl (v := (0, 0)) ((xal0 (ly_ka L) (show 1 < 4 by omega)).trans (congrArg (fun z => some (0, z)) (hK1))) ?_
  refine xk_store rfl (p := 31) rfl (by decide) (Nat.le_of_ble_eq_true rfl) (ls' := [(0, 3), (0, 2), (0, 0), (0, 1)]) rfl ?_
  refine xk_iinc rfl (p := 34) rfl (x := 1) rfl (ls' := [(0, 3), (0, 2), (0, 0), (0, 2)]) rfl ?_
  refine xk_goto rfl ?_
  refine xk_load rfl (p := 5) rfl rfl ?_
  refine xk_push rfl (p := 6) rfl ?_
  refine xk_icmp rfl (p := 9) rfl (fun c6_9 => absurd c6_9 (show ¬ ((4 : Int) ≤ (2 : Int)) by decide)) (fun c6_9 => ?_)
  refine xk_load rfl (p := 10) rfl rfl ?_
  refine xk_if rfl (p := 13) rfl (fun c10_10 => absurd c10_10 (show ¬ ((0 : Int) < (0 : Int)) by decide)) (fun c10_10 => ?_)
  refine xk_load rfl (p := 14) rfl rfl ?_
  refine xk_push rfl (p := 15) rfl ?_
  refine xk_icmp rfl (p := 18) rfl (fun c15_11 => absurd c15_11 (show ¬ ((4 : Int) ≤ (0 : Int)) by decide)) (fun c15_11 => ?_)
  refine xk_load rfl (p := 19) rfl rfl ?_
  refine xk_load rfl (p := 20) rfl rfl ?_
  refine xk_icmp rfl (p := 23) rfl (fun c20_12 => ?_) (fun c20_12 => absurd (show ¬ (0 : Int) = (2 : Int) by decide) c20_12)
  refine xk_gets rfl (p := 28) rfl ?_
  refine xk_load rfl (p := 29) rfl rfl ?_
  refine xk_ald rfl (p := 30) rfl (v := (0, (-1))) ((xal0 (ly_ka L) (show 0 < 4 by omega)).trans (congrArg (fun z => some (0, z)) (hK0))) ?_
  refine xk_store rfl (p := 31) rfl (by decide) (Nat.le_of_ble_eq_true rfl) (ls' := [(0, 3), (0, 2), (0, (-1)), (0, 2)]) rfl ?_
  refine xk_iinc rfl (p := 34) rfl (x := 2) rfl (ls' := [(0, 3), (0, 2), (0, (-1)), (0, 3)]) rfl ?_
  refine xk_goto rfl ?_
  refine xk_load rfl (p := 5) rfl rfl ?_
  refine xk_push rfl (p := 6) rfl ?_
  refine xk_icmp rfl (p := 9) rfl (fun c6_13 => absurd c6_13 (show ¬ ((4 : Int) ≤ (3 : Int)) by decide)) (fun c6_13 => ?_)
  refine xk_load rfl (p := 10) rfl rfl ?_
  refine xk_if rfl (p := 13) rfl (fun c10_14 => ?_) (fun c10_14 => absurd (show ((-1) : Int) < (0 : Int) by decide) c10_14)
  refine xk_push rfl (p := 38) rfl ?_
  refine xk_rete rfl (rfl) ?_
  rfl

theorem c_under33 {d : Nat} {g : xG} {t : xD} (L : xLay g) (hK0 : t 1 0 = -1) (hK1 : t 1 1 = 0) (hK2 : t 1 2 = 0) (hK3 : t 1 3 = 1) : xCall (d) 111 [(0, 3), (0, 3)] g t (xQ g t (some (0, 1))) := by
  show xOk (d) 111 0 [(0, 3), (0, 3), (3, 0), (3, 0)] [] g t _
  refine xk_load rfl (p := 1) rfl rfl ?_
  refine xk_store rfl (p := 2) rfl (by decide) (Nat.le_of_ble_eq_true rfl) (ls' := [(0, 3), (0, 3), (0, 3), (3, 0)]) rfl ?_
  refine xk_push rfl (p := 3) rfl ?_
  refine xk_store rfl (p := 4) rfl (by decide) (Nat.le_of_ble_eq_true rfl) (ls' := [(0, 3), (0, 3), (0, 3), (0, 0)]) rfl ?_
  refine xk_load rfl (p := 5) rfl rfl ?_
  refine xk_push rfl (p := 6) rfl ?_
  refine xk_icmp rfl (p := 9) rfl (fun c6_1 => absurd c6_1 (show ¬ ((4 : Int) ≤ (0 : Int)) by decide)) (fun c6_1 => ?_)
  refine xk_load rfl (p := 10) rfl rfl ?_
  refine xk_if rfl (p := 13) rfl (fun c10_2 => absurd c10_2 (show ¬ ((3 : Int) < (0 : Int)) by decide)) (fun c10_2 => ?_)
  refine xk_load rfl (p := 14) rfl rfl ?_
  refine xk_push rfl (p := 15) rfl ?_
  refine xk_icmp rfl (p := 18) rfl (fun c15_3 => absurd c15_3 (show ¬ ((4 : Int) ≤ (3 : Int)) by decide)) (fun c15_3 => ?_)
  refine xk_load rfl (p := 19) rfl rfl ?_
  refine xk_load rfl (p := 20) rfl rfl ?_
  refine xk_icmp rfl (p := 23) rfl (fun c20_4 => absurd c20_4 (show ¬ (¬ (3 : Int) = (3 : Int)) by decide)) (fun c20_4 => ?_)
  refine xk_push rfl (p := 24) rfl ?_
  refine xk_rete rfl (rfl) ?_
  rfl

theorem c_under {d : Nat} {g : xG} {t : xD} {k u : Int} (L : xLay g) (hK0 : t 1 0 = -1) (hK1 : t 1 1 = 0) (hK2 : t 1 2 = 0) (hK3 : t 1 3 = 1) (h1 : 0 ≤ k ∧ k ≤ 3) (h2 : 0 ≤ u ∧ u ≤ 3) : xCall d 111 [(0, k), (0, u)] g t (xQ g t (some (0, if u = 0 ∨ k = u ∨ (k = 3 ∧ u = 1) then (1 : Int) else 0))) := by
  rcases (by omega : k = 0 ∨ k = 1 ∨ k = 2 ∨ k = 3) with rfl | rfl | rfl | rfl <;> rcases (by omega : u = 0 ∨ u = 1 ∨ u = 2 ∨ u = 3) with rfl | rfl | rfl | rfl
  · exact c_under00 L hK0 hK1 hK2 hK3
  · exact c_under01 L hK0 hK1 hK2 hK3
  · exact c_under02 L hK0 hK1 hK2 hK3
  · exact c_under03 L hK0 hK1 hK2 hK3
  · exact c_under10 L hK0 hK1 hK2 hK3
  · exact c_under11 L hK0 hK1 hK2 hK3
  · exact c_under12 L hK0 hK1 hK2 hK3
  · exact c_under13 L hK0 hK1 hK2 hK3
  · exact c_under20 L hK0 hK1 hK2 hK3
  · exact c_under21 L hK0 hK1 hK2 hK3
  · exact c_under22 L hK0 hK1 hK2 hK3
  · exact c_under23 L hK0 hK1 hK2 hK3
  · exact c_under30 L hK0 hK1 hK2 hK3
  · exact c_under31 L hK0 hK1 hK2 hK3
  · exact c_under32 L hK0 hK1 hK2 hK3
  · exact c_under33 L hK0 hK1 hK2 hK3
theorem c_taken {d : Nat} {g : xG} {t m : xD} {x y : Int} (L : xLay g) (hI : Inv m) (hR : Rep t 0 m) (hK0 : t 1 0 = -1) (hK1 : t 1 1 = 0) (hK2 : t 1 2 = 0) (hK3 : t 1 3 = 1) : xCall (d + 1) 101 [(2, ((2 : Nat) : Int)), (0, x), (0, y)] g t (zQ 0 g t (some (0, y_taken m x y), m)) := by
  show xOk (d + 1) 101 0 [(2, ((2 : Nat) : Int)), (0, x), (0, y), (3, 0)] [] g t _
  have iNn_ := iNn hI
  have hs : 0 < 3 := by decide
  have hs1 : 1 < 3 := by decide
  have hs2 : 2 < 3 := by decide
  refine xk_load rfl (p := 1) rfl rfl ?_
  refine xk_if rfl (p := 4) rfl (fun c1_1 => ?_) (fun c1_1 => ?_)
  · replace c1_1 : y < 0 := c1_1
    refine xk_push rfl (p := 11) rfl ?_
    refine xk_ret rfl (rfl) ?_
    exact zRet (congrArg (fun z => (some ((0, z) : xV), m)) (show y_taken m x y = (-2) from (by unfold y_taken; (repeat' split) <;> first | rfl | (exfalso; omega) | (congr 1; omega)))) hR Fr.rf
  · replace c1_1 : ¬ (y < 0) := c1_1
    refine xk_load rfl (p := 5) rfl rfl ?_
    refine xk_push rfl (p := 6) rfl ?_
    refine xk_icmp rfl (p := 9) rfl (fun c6_2 => ?_) (fun c6_2 => ?_)
    · replace c6_2 : y < 4 := c6_2
      refine xk_load rfl (p := 13) rfl rfl ?_
      refine xk_getf rfl (p := 16) rfl (xob (ly_x L) (by decide)) (v := (2, (((5 + 89 * 0) : Nat) : Int))) (xsl2 rfl (ly_x1 L)) ?_
      refine xk_load rfl (p := 17) rfl rfl ?_
      refine xk_callp rfl (p := 20) rfl (by decide) rfl (Nat.le_of_ble_eq_true rfl) (Nat.le_of_ble_eq_true rfl) (xrv (ly_st L hs) (by decide)) (as := [(2, (((5 + 89 * 0) : Nat) : Int)), (0, x)]) (r := []) rfl (v := (0, (if 0 ≤ x ∧ x < 4 ∧ 0 < m 300 x.toNat then (1 : Int) else 0))) (c_isDeal L hs hI hR) ?_
      refine xk_if rfl (p := 23) rfl (fun c20_3 => ?_) (fun c20_3 => ?_)
      · replace c20_3 : 0 ≤ x ∧ x < 4 ∧ 0 < m 300 x.toNat := xb_n0 c20_3
        refine xk_load rfl (p := 27) rfl rfl ?_
        refine xk_getf rfl (p := 30) rfl (xob (ly_x L) (by decide)) (v := (2, (((5 + 89 * 0) : Nat) : Int))) (xsl2 rfl (ly_x1 L)) ?_
        refine xk_getf rfl (p := 33) rfl (xob (ly_st L hs) (by decide)) (v := (2, (((7 + 89 * 0) : Nat) : Int))) (xsl2 rfl (ly_s1 L hs)) ?_
        refine xk_load rfl (p := 34) rfl rfl ?_
        refine xk_aldi rfl (p := 35) rfl (show 0 ≤ x by omega) (v := (2, (((78 + 89 * 0 + 4 * (x.toNat)) : Nat) : Int))) (xal2 (ly_sd L hs) (by decide) (show x.toNat < 4 by omega) (ly_de L hs (show x.toNat < 4 by omega))) ?_
        refine xk_getf rfl (p := 38) rfl (xob ((ly_dl L hs (show x.toNat < 4 by omega)).1) (by decide)) (v := (0, (m 300 (x.toNat) - 1))) (xsl0 rfl (rKnd hR (show x.toNat < 4 by omega) (show 0 < m 300 (x.toNat) by omega))) ?_
        refine xk_store rfl (p := 39) rfl (by decide) (Nat.le_of_ble_eq_true rfl) (ls' := [(2, ((2 : Nat) : Int)), (0, x), (0, y), (0, (m 300 (x.toNat) - 1))]) rfl ?_
        refine xk_load rfl (p := 40) rfl rfl ?_
        refine xk_load rfl (p := 41) rfl rfl ?_
        have iDx_ := iD hI (show x.toNat < 4 by omega)
        refine xk_callp rfl (p := 44) rfl (by decide) rfl (Nat.le_of_ble_eq_true rfl) (Nat.le_of_ble_eq_true rfl) (rfl) (as := [(0, (m 300 (x.toNat) - 1)), (0, y)]) (r := []) rfl (v := (0, (if (y = 0 ∨ (m 300 (x.toNat) - 1) = y ∨ ((m 300 (x.toNat) - 1) = 3 ∧ y = 1)) then (1 : Int) else 0))) (c_under L hK0 hK1 hK2 hK3 (by omega) (by omega)) ?_
        refine xk_if rfl (p := 47) rfl (fun c44_4 => ?_) (fun c44_4 => ?_)
        · replace c44_4 : ¬ ((y = 0 ∨ (m 300 (x.toNat) - 1) = y ∨ ((m 300 (x.toNat) - 1) = 3 ∧ y = 1))) := xb_e0 c44_4
          refine xk_push rfl (p := 53) rfl ?_
          refine xk_ret rfl (rfl) ?_
          exact zRet (congrArg (fun z => (some ((0, z) : xV), m)) (show y_taken m x y = (-12) from (by unfold y_taken; (repeat' split) <;> first | rfl | (exfalso; omega) | (congr 1; omega)))) hR Fr.rf
        · replace c44_4 : (y = 0 ∨ (m 300 (x.toNat) - 1) = y ∨ ((m 300 (x.toNat) - 1) = 3 ∧ y = 1)) := xb_n0 c44_4
          refine xk_load rfl (p := 48) rfl rfl ?_
          refine xk_goto rfl ?_
          refine xk_ret rfl (rfl) ?_
          exact zRet (congrArg (fun z => (some ((0, z) : xV), m)) (show y_taken m x y = (m 300 (x.toNat) - 1) from (by unfold y_taken; (repeat' split) <;> first | rfl | (exfalso; omega) | (congr 1; omega)))) hR Fr.rf
      · replace c20_3 : ¬ (0 ≤ x ∧ x < 4 ∧ 0 < m 300 x.toNat) := xb_e1 c20_3
        refine xk_push rfl (p := 25) rfl ?_
        refine xk_ret rfl (rfl) ?_
        exact zRet (congrArg (fun z => (some ((0, z) : xV), m)) (show y_taken m x y = (-11) from (by unfold y_taken; (repeat' split) <;> first | rfl | (exfalso; omega) | (congr 1; omega)))) hR Fr.rf
    · replace c6_2 : ¬ (y < 4) := c6_2
      refine xk_push rfl (p := 11) rfl ?_
      refine xk_ret rfl (rfl) ?_
      exact zRet (congrArg (fun z => (some ((0, z) : xV), m)) (show y_taken m x y = (-2) from (by unfold y_taken; (repeat' split) <;> first | rfl | (exfalso; omega) | (congr 1; omega)))) hR Fr.rf

theorem sGn_t {t m : xD} {s n : Nat} {x : Int} (h : Rep t s m) (hI : Inv m) (hn : n < nN m) : xfst (fun i => decide (x ≤ t (18 + 89 * s + 5 * n + 1 + 1) i)) (nJ m n) = sGn m n x := by
  have jn := iJn hI hn
  have h4 := (h.2.2.2.1 n hn).2
  refine xfst_eq (xfst_le _ _) (fun i hi => ?_) (fun hl => ?_)
  · have le := xfst_le (fun i => decide (x ≤ m 299 (18 * n + 3 * i))) (nJ m n)
    have e := (h4 i (by unfold sGn at hi; omega)).1
    have := of_decide_eq_false (xfst_lt (fun i => decide (x ≤ m 299 (18 * n + 3 * i))) (nJ m n) i hi)
    exact decide_eq_false (by rw [e]; exact this)
  · have e := (h4 _ (show ((sGn m n x : Nat) : Int) < m 298 n by omega)).1
    have := of_decide_eq_true (xfst_at (fun i => decide (x ≤ m 299 (18 * n + 3 * i))) (nJ m n) hl)
    exact decide_eq_true (by rw [e]; exact this)
/-- entries dropped -/
theorem Rep.drop {t m : xD} {s n G : Nat} (h : Rep t s m) (hI : Inv m) (hn : n < nN m) (hG : G ≤ nJ m n) : Rep (xupd (xdrp t (18 + 89 * s + 5 * n + 1) G (nJ m n - G)) (18 + 89 * s + 5 * n + 1) 3 ((nJ m n - G : Nat) : Int)) s (tDr n G m) := by
  have hN := iNn hI
  have jn := iJn hI hn
  have h3 := h.2.2.1 n hn
  have h4 := h.2.2.2.1 n hn
  have kq : ∀ g a k, a ≠ 298 → a ≠ 299 → tDr n g m a k = m a k := by
    intro g
    induction g with
    | zero => intro a k _ _; rfl
    | succ g ih =>
      intro a k h1 h2
      show tDrop (tDr n g m) n a k = _
      exact ((xsh_ne (by omega)).trans (xupd_ne (by omega))).trans (ih a k h1 h2)
  have eJ := tDr_J (m := m) (n := n) G hG
  have e8 : tDr n G m 298 n = ((nJ m n - G : Nat) : Int) := by
    cases G with
    | zero => rw [show tDr n 0 m = m from rfl, jn.1]; rfl
    | succ g => rw [show tDr n (g + 1) m = tDrop (tDr n g m) n from rfl, tDrop_n, show tDrop (tDr n g m) n = tDr n (g + 1) m from rfl, eJ]
  refine h.name hI hn (fun a k hh => (xupd_ne (by omega)).trans (xdrp_ge (by omega))) (fun k h5 h6 => (xupd_ne (by omega)).trans (xdrp_ge (by omega))) (tDr_kp G) (fun q hq hq2 => ⟨kq G _ _ (by decide) (by decide), kq G _ _ (by decide) (by decide), tDr_98 hq G, fun k hk => tDr_9o hq hk jn.2 G hG⟩) ⟨((xupd_ne (by omega)).trans (xdrp_ge (by omega))).trans (h3.2.2.2.2.1.trans (kq G _ _ (by decide) (by decide)).symm), ((xupd_ne (by omega)).trans (xdrp_ge (by omega))).trans (h3.2.2.2.2.2.1.trans (kq G _ _ (by decide) (by decide)).symm)⟩ ⟨xupd_eq.trans e8.symm, fun k hk => ?_⟩
  rw [e8] at hk
  have a := h4.2 (k + G) (by omega)
  have d := fun j (hj : j < 3) => tDr_99 (m := m) (n := n) G hG (3 * k + j) (by omega)
  have e : ∀ j, (j = 1 ∨ j = 2 ∨ j = 3) → xupd (xdrp t (18 + 89 * s + 5 * n + 1) G (nJ m n - G)) (18 + 89 * s + 5 * n + 1) 3 ((nJ m n - G : Nat) : Int) (18 + 89 * s + 5 * n + 1 + j) k = t (18 + 89 * s + 5 * n + 1 + j) (k + G) := fun j hj => (xupd_ne (by omega)).trans (if_pos (by omega))
  rw [e 1 (by omega), e 2 (by omega), e 3 (by omega)]
  have d0 := d 0 (by omega)
  have d1 := d 1 (by omega)
  have d2 := d 2 (by omega)
  refine ⟨a.1.trans ?_, a.2.1.trans ?_, a.2.2.trans ?_⟩
  · exact Eq.symm ((congrArg (tDr n G m 299) (show 18 * n + 3 * k = 18 * n + (3 * k + 0) by omega)).trans (d0.trans (congrArg (m 299) (by omega))))
  · exact Eq.symm ((congrArg (tDr n G m 299) (show 18 * n + 3 * k + 1 = 18 * n + (3 * k + 1) by omega)).trans (d1.trans (congrArg (m 299) (by omega))))
  · exact Eq.symm ((congrArg (tDr n G m 299) (show 18 * n + 3 * k + 2 = 18 * n + (3 * k + 2) by omega)).trans (d2.trans (congrArg (m 299) (by omega))))
theorem c_expire {d : Nat} {g : xG} {t m : xD} {x : Int} (L : xLay g) (hI : Inv m) (hR : Rep t 0 m) : xCall (d + 2) 76 [(2, ((2 : Nat) : Int)), (0, x)] g t (zQ 0 g t (y_expire m x)) := by
  show xOk (d + 2) 76 0 [(2, ((2 : Nat) : Int)), (0, x), (3, 0), (3, 0)] [] g t _
  have iNn_ := iNn hI
  have hs : 0 < 3 := by decide
  have hs1 : 1 < 3 := by decide
  have hs2 : 2 < 3 := by decide
  refine xk_push rfl (p := 1) rfl ?_
  refine xk_store rfl (p := 2) rfl (by decide) (Nat.le_of_ble_eq_true rfl) (ls' := [(2, ((2 : Nat) : Int)), (0, x), (0, 0), (3, 0)]) rfl ?_
  refine xk_push rfl (p := 3) rfl ?_
  refine xk_store rfl (p := 4) rfl (by decide) (Nat.le_of_ble_eq_true rfl) (ls' := [(2, ((2 : Nat) : Int)), (0, x), (0, 0), (0, 0)]) rfl ?_
  have lp1 : ∀ k : Nat, k ≤ nN m → ∀ (z : Nat) (u1 : xD), (Rep u1 0 (tEx m x k).2) → (Fr 0 t u1) → (z = (tEx m x k).1) → xOk (d + 2) 76 4 [(2, ((2 : Nat) : Int)), (0, x), (0, ((z : Nat) : Int)), (0, ((k : Nat) : Int))] [] g u1 (zQ 0 g t (y_expire m x)) := by
    refine xk_up (nN m) (fun k hkk ih1 z u1 h1_1 h1_2 h1_3 => ?_)
    have ex_ := tEx_ok hI (x := x) k hkk
    refine xk_load rfl (p := 5) rfl rfl ?_
    refine xk_load rfl (p := 6) rfl rfl ?_
    refine xk_getf rfl (p := 9) rfl (xob (ly_x L) (by decide)) (v := (2, (((5 + 89 * 0) : Nat) : Int))) (xsl2 rfl (ly_x1 L)) ?_
    refine xk_getf rfl (p := 12) rfl (xob (ly_st L hs) (by decide)) (v := (0, ((nN m : Nat) : Int))) (xsl0 rfl ((rN h1_1).trans ((ex_.2.1 292 0 (by decide)).trans (iNn hI).1))) ?_
    refine xk_icmp rfl (p := 15) rfl (fun c12_2 => ?_) (fun c12_2 => ?_)
    · replace c12_2 : ((nN m : Nat) : Int) ≤ ((k : Nat) : Int) := c12_2
      refine xk_load rfl (p := 41) rfl rfl ?_
      refine xk_ret rfl (rfl) ?_
      rw [show k = nN m by omega] at h1_1 h1_3
      exact zRet (by rw [h1_3]; rfl) h1_1 h1_2
    · replace c12_2 : ¬ (((nN m : Nat) : Int) ≤ ((k : Nat) : Int)) := c12_2
      refine xk_load rfl (p := 16) rfl rfl ?_
      refine xk_load rfl (p := 17) rfl rfl ?_
      refine xk_getf rfl (p := 20) rfl (xob (ly_x L) (by decide)) (v := (2, (((5 + 89 * 0) : Nat) : Int))) (xsl2 rfl (ly_x1 L)) ?_
      refine xk_getf rfl (p := 23) rfl (xob (ly_st L hs) (by decide)) (v := (2, (((6 + 89 * 0) : Nat) : Int))) (xsl2 rfl (ly_s0 L hs)) ?_
      refine xk_load rfl (p := 24) rfl rfl ?_
      refine xk_ald rfl (p := 25) rfl (v := (2, (((18 + 89 * 0 + 5 * k) : Nat) : Int))) (xal2 (ly_sn L hs) (by decide) (show k < 12 by omega) (ly_ne L hs (show k < 12 by omega))) ?_
      refine xk_getf rfl (p := 28) rfl (xob ((ly_nm L hs (show k < 12 by omega)).1) (by decide)) (v := (2, ((((18 + 89 * 0 + 5 * k) + 1) : Nat) : Int))) (xsl2 rfl ((ly_nm L hs (show k < 12 by omega)).2.2)) ?_
      refine xk_load rfl (p := 29) rfl rfl ?_
      have jn_ := iJn ex_.1 (n := k) (by rw [ex_.2.2.1]; omega)
      refine xk_call rfl (p := 32) rfl (by decide) rfl (Nat.le_of_ble_eq_true rfl) (Nat.le_of_ble_eq_true rfl) (xrv ((ly_nm L hs (show k < 12 by omega)).2.1.1) (by decide)) (as := [(2, ((((18 + 89 * 0 + 5 * k) + 1) : Nat) : Int)), (0, x)]) (r := [(0, ((z : Nat) : Int))]) rfl (m_jcut (x := x) (ly_nm L hs (show k < 12 by omega)).2.1 ((rJn h1_1 (show k < nN (tEx m x k).2 by rw [ex_.2.2.1]; omega)).trans jn_.1) jn_.2 (by omega)) ?_
      rintro _ g v1 ⟨G, hG, hG2, rfl, rfl, ev1⟩
      have eG : G = sGn (tEx m x k).2 k x := hG.trans (sGn_t h1_1 ex_.1 (by rw [ex_.2.2.1]; omega))
      refine xk_bin rfl (p := 33) rfl (z := ((z + G : Nat) : Int)) (congrArg some (xadd_n (n := z) (m := G) (by omega))) ?_
      refine xk_store rfl (p := 34) rfl (by decide) (Nat.le_of_ble_eq_true rfl) (ls' := [(2, ((2 : Nat) : Int)), (0, x), (0, ((z + G : Nat) : Int)), (0, ((k : Nat) : Int))]) rfl ?_
      refine xk_inc1 rfl (p := 37) rfl (n := k) rfl (by omega) (ls' := [(2, ((2 : Nat) : Int)), (0, x), (0, ((z + G : Nat) : Int)), (0, ((k + 1 : Nat) : Int))]) rfl ?_
      refine xk_goto rfl ?_
      exact ih1 (by omega) (z + G) v1 (by rw [ev1]; subst eG; exact h1_1.drop ex_.1 (by rw [ex_.2.2.1]; omega) hG2) (by exact h1_2.tr (fun b j hh => by rw [ev1]; exact (xupd_ne (by omega)).trans (xdrp_ge (by omega)))) (by show z + G = (tEx m x k).1 + sGn (tEx m x k).2 k x; omega)
  exact lp1 0 (by omega) 0 t (by exact hR) (by exact Fr.rf) (by rfl)
