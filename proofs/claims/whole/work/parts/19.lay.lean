theorem tst_stored {g : xG} {t : xD} {a : Nat} (h : (g.2.1 a) = (2, 8)) : xCall 5 16 [(2, ((a : Nat) : Int))] g t (fun r g' t' => g' = g ∧ t' = t ∧ r = some (0, if t a 5 ≠ 0 then t a 5 else t a 6)) := by
  have ho : ∀ k, k < 8 → xobj g a 2 k := fun k hk => ⟨by rw [h], by rw [h]; exact hk⟩
  show xOk 5 16 0 [(2, ((a : Nat) : Int))] [] g t _
  refine xk_load rfl (p := 1) rfl rfl ?_
  refine xk_getf rfl (p := 4) rfl (ho 5 (by decide)) rfl ?_
  refine xk_if rfl (p := 7) rfl (fun c => ?_) (fun c => ?_)
  · refine xk_load rfl (p := 15) rfl rfl ?_
    refine xk_getf rfl (p := 18) rfl (ho 6 (by decide)) rfl ?_
    refine xk_ret rfl rfl ?_
    exact ⟨rfl, rfl, by rw [if_neg (fun w => w c)]⟩
  · refine xk_load rfl (p := 8) rfl rfl ?_
    refine xk_getf rfl (p := 11) rfl (ho 5 (by decide)) rfl ?_
    refine xk_goto rfl ?_
    refine xk_ret rfl rfl ?_
    exact ⟨rfl, rfl, by rw [if_pos (show t a 5 ≠ 0 from c)]⟩
