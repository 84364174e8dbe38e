/-! THE SMALL OBJECTS' METHODS -/
/-- a deal lies at a, its arrays behind it -/
def xDl (g : xG) (a : Nat) : Prop := g.2.1 a = (0, 6) ∧ g.2.1 (a + 1) = (20, 4) ∧ g.2.1 (a + 2) = (20, 4) ∧ g.2.1 (a + 3) = (20, 4) ∧ g.2.2 a 0 = ((a + 1 : Nat) : Int) ∧ g.2.2 a 1 = ((a + 2 : Nat) : Int) ∧ g.2.2 a 2 = ((a + 3 : Nat) : Int)
def xJr (g : xG) (a : Nat) : Prop := g.2.1 a = (1, 4) ∧ g.2.1 (a + 1) = (20, 6) ∧ g.2.1 (a + 2) = (20, 6) ∧ g.2.1 (a + 3) = (20, 6) ∧ g.2.2 a 0 = ((a + 1 : Nat) : Int) ∧ g.2.2 a 1 = ((a + 2 : Nat) : Int) ∧ g.2.2 a 2 = ((a + 3 : Nat) : Int)
def xPr (g : xG) (a : Nat) : Prop := g.2.1 a = (4, 4) ∧ g.2.1 (a + 1) = (20, 10) ∧ g.2.1 (a + 2) = (20, 10) ∧ g.2.2 a 0 = ((a + 1 : Nat) : Int) ∧ g.2.2 a 1 = ((a + 2 : Nat) : Int)
def xTp (g : xG) (a : Nat) : Prop := g.2.1 a = (6, 3) ∧ g.2.1 (a + 1) = (21, 60) ∧ g.2.2 a 0 = ((a + 1 : Nat) : Int)
def xNm (g : xG) (a : Nat) : Prop := g.2.1 a = (2, 8) ∧ xJr g (a + 1) ∧ g.2.2 a 0 = ((a + 1 : Nat) : Int)
def xTx (g : xG) : Prop := g.2.1 3 = (7, 2) ∧ g.2.1 4 = (22, 100) ∧ g.2.2 3 0 = ((4 : Nat) : Int)

theorem m_rowFor {d a R : Nat} {g : xG} {t : xD} {x : Int} (hd : xDl g a) (hr : t a 3 = ((R : Nat) : Int)) (hR : R ≤ 4) : xCall (d) 3 [(2, ((a : Nat) : Int)), (0, x)] g t (xQ g t (some (0, xix R (xfst (fun r => decide (t (a + 1) r = x)) R)))) := by
  show xOk (d) 3 0 [(2, ((a : Nat) : Int)), (0, x), (3, 0)] [] g t _
  obtain ⟨h0, h1, h2, h3, p0, p1, p2⟩ := hd
  refine xk_push rfl (p := 1) rfl ?_
  refine xk_store rfl (p := 2) rfl (by decide) (Nat.le_of_ble_eq_true rfl) (ls' := [(2, ((a : Nat) : Int)), (0, x), (0, 0)]) rfl ?_
  have lp2 : ∀ k : Nat, k ≤ R → (∀ i, i < k → ¬ t (a + 1) i = x) → xOk (d) 3 2 [(2, ((a : Nat) : Int)), (0, x), (0, ((k : Nat) : Int))] [] g t (xQ g t (some (0, xix R (xfst (fun r => decide (t (a + 1) r = x)) R)))) := by
    refine xk_up R (fun k hk ih2  hi1 => ?_)
    refine xk_load rfl (p := 3) rfl rfl ?_
    refine xk_load rfl (p := 4) rfl rfl ?_
    refine xk_getf rfl (p := 7) rfl (xob h0 (by decide)) (v := (0, ((R : Nat) : Int))) (xsl0 rfl hr) ?_
    refine xk_icmp rfl (p := 10) rfl (fun c7 => ?_) (fun c7 => ?_)
    · replace c7 : (((R : Nat) : Int)) ≤ (((k : Nat) : Int)) := c7
      refine xk_push rfl (p := 29) rfl ?_
      refine xk_rete rfl (rfl) ?_
      rw [xfst_eq (k := R) (by omega) (fun i h => decide_eq_false (hi1 i (by omega))) (fun h => absurd h (Nat.lt_irrefl R))]; exact (if_neg (Nat.lt_irrefl R)).symm
    · replace c7 : ¬ (((R : Nat) : Int)) ≤ (((k : Nat) : Int)) := c7
      refine xk_load rfl (p := 11) rfl rfl ?_
      refine xk_getf rfl (p := 14) rfl (xob h0 (by decide)) (v := (2, (((a + 1) : Nat) : Int))) (xsl2 rfl p0) ?_
      refine xk_load rfl (p := 15) rfl rfl ?_
      refine xk_ald rfl (p := 16) rfl (v := (0, t ((a + 1)) (k))) (xal0 h1 (by omega)) ?_
      refine xk_load rfl (p := 17) rfl rfl ?_
      refine xk_icmp rfl (p := 20) rfl (fun c17 => ?_) (fun c17 => ?_)
      · replace c17 : ¬ (t ((a + 1)) (k)) = (x) := c17
        refine xk_inc1 rfl (p := 25) rfl (n := k) rfl (by omega) (ls' := [(2, ((a : Nat) : Int)), (0, x), (0, ((k + 1 : Nat) : Int))]) rfl ?_
        refine xk_goto rfl ?_
        exact ih2 (by omega)  (by exact xall_up hi1 c17)
      · replace c17 : ¬ (¬ (t ((a + 1)) (k)) = (x)) := c17
        refine xk_load rfl (p := 21) rfl rfl ?_
        refine xk_rete rfl (rfl) ?_
        rw [xfst_eq (k := k) (by omega) (fun i h => decide_eq_false (hi1 i h)) (fun _ => decide_eq_true (Decidable.not_not.mp c17))]; exact (if_pos (by omega)).symm
  exact lp2 (0) (by omega)  (by intro i h; omega)
