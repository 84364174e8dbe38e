/-! LIST -/
theorem xcnt_cg {p q : Nat → Bool} : ∀ K, (∀ i, i < K → (p i = true ↔ q i = true)) → xcnt p K = xcnt q K
  | 0, _ => rfl
  | K + 1, h => by
    have e := xcnt_cg K (fun i hi => h i (by omega))
    by_cases c : p K = true
    · rw [← xcnt_in (p := p) rfl c, ← xcnt_in (p := q) rfl ((h K (by omega)).mp c), e]
    · rw [← xcnt_out (p := p) rfl c, ← xcnt_out (p := q) rfl (fun hh => c ((h K (by omega)).mpr hh)), e]
theorem xcnt_ad {r p q : Nat → Bool} : ∀ K, (∀ i, i < K → (r i = true ↔ (p i = true ∨ q i = true))) → (∀ i, i < K → ¬ (p i = true ∧ q i = true)) → xcnt r K = xcnt p K + xcnt q K
  | 0, _, _ => rfl
  | K + 1, h, h2 => by
    have e := xcnt_ad K (fun i hi => h i (by omega)) (fun i hi => h2 i (by omega))
    have hr := h K (by omega)
    have hn := h2 K (by omega)
    by_cases c : p K = true
    · have c2 : ¬ q K = true := fun hh => hn ⟨c, hh⟩
      have a1 := xcnt_in (p := p) (k := K) rfl c
      have a2 := xcnt_out (p := q) (k := K) rfl c2
      have a3 := xcnt_in (p := r) (k := K) rfl (hr.mpr (Or.inl c))
      omega
    · have a1 := xcnt_out (p := p) (k := K) rfl c
      by_cases c2 : q K = true
      · have a2 := xcnt_in (p := q) (k := K) rfl c2
        have a3 := xcnt_in (p := r) (k := K) rfl (hr.mpr (Or.inr c2))
        omega
      · have a2 := xcnt_out (p := q) (k := K) rfl c2
        have a3 := xcnt_out (p := r) (k := K) rfl (fun hh => (hr.mp hh).elim c c2)
        omega
theorem xcnt_mo {p q : Nat → Bool} : ∀ K, (∀ i, i < K → p i = true → q i = true) → xcnt p K ≤ xcnt q K
  | 0, _ => Nat.le_refl 0
  | K + 1, h => by
    have e := xcnt_mo K (fun i hi => h i (by omega))
    have hr := h K (by omega)
    by_cases c : p K = true
    · have a1 := xcnt_in (p := p) (k := K) rfl c
      have a2 := xcnt_in (p := q) (k := K) rfl (hr c)
      omega
    · have a1 := xcnt_out (p := p) (k := K) rfl c
      by_cases c2 : q K = true
      · have a2 := xcnt_in (p := q) (k := K) rfl c2
        omega
      · have a2 := xcnt_out (p := q) (k := K) rfl c2
        omega
theorem xcnt_ml {p q : Nat → Bool} {j : Nat} : ∀ K, j < K → (∀ i, i < K → p i = true → q i = true) → ¬ p j = true → q j = true → xcnt p K < xcnt q K
  | 0, hj, _, _, _ => absurd hj (by omega)
  | K + 1, hj, h, hp, hq => by
    have hr := h K (by omega)
    by_cases cj : j = K
    · subst cj
      have e := xcnt_mo j (fun i hi => h i (by omega))
      have a1 := xcnt_out (p := p) (k := j) rfl hp
      have a2 := xcnt_in (p := q) (k := j) rfl hq
      omega
    · have e := xcnt_ml K (by omega) (fun i hi => h i (by omega)) hp hq
      by_cases c : p K = true
      · have a1 := xcnt_in (p := p) (k := K) rfl c
        have a2 := xcnt_in (p := q) (k := K) rfl (hr c)
        omega
      · have a1 := xcnt_out (p := p) (k := K) rfl c
        by_cases c2 : q K = true
        · have a2 := xcnt_in (p := q) (k := K) rfl c2
          omega
        · have a2 := xcnt_out (p := q) (k := K) rfl c2
          omega
theorem pl_lt {m : xD} (hI : Inv m) {a b : Nat} (ha : a < nN m) (hb : b < nN m) (h : kK m a < kK m b) : xcnt (fun q => bBef m q a) (nN m) < xcnt (fun q => bBef m q b) (nN m) := by
  refine xcnt_ml (j := a) (nN m) ha (fun i hi hp => (bBef_key hI hi hb).mpr ?_) (fun hp => ?_) ((bBef_key hI ha hb).mpr h)
  · have := (bBef_key hI hi ha).mp hp
    omega
  · have := (bBef_key hI ha ha).mp hp
    omega
theorem pl_inj {m : xD} (hI : Inv m) {a b : Nat} (ha : a < nN m) (hb : b < nN m) (h : xcnt (fun q => bBef m q a) (nN m) = xcnt (fun q => bBef m q b) (nN m)) : a = b := by
  apply iK hI ha hb
  have h1 := fun hh => pl_lt hI ha hb hh
  have h2 := fun hh => pl_lt hI hb ha hh
  by_cases c1 : kK m a < kK m b
  · have := h1 c1
    omega
  · by_cases c2 : kK m b < kK m a
    · have := h2 c2
      omega
    · omega
theorem pl_iff {m : xD} (hI : Inv m) {a b : Nat} (ha : a < nN m) (hb : b < nN m) : kK m a < kK m b ↔ xcnt (fun q => bBef m q a) (nN m) < xcnt (fun q => bBef m q b) (nN m) := by
  constructor
  · exact pl_lt hI ha hb
  · intro h
    by_cases c1 : kK m a < kK m b
    · exact c1
    · by_cases c2 : kK m b < kK m a
      · have := pl_lt hI hb ha c2
        omega
      · have := iK hI ha hb (by omega)
        subst this
        omega
theorem pl_N {m : xD} (hI : Inv m) {a : Nat} (ha : a < nN m) : xcnt (fun q => bBef m q a) (nN m) < nN m := by
  have h1 := xcnt_ml (p := fun q => bBef m q a) (q := fun _ => true) (j := a) (nN m) ha (fun _ _ _ => rfl) (fun hp => by
    have := (bBef_key hI ha ha).mp hp
    omega) rfl
  have h2 := xcnt_le (p := fun _ => true) (nN m)
  omega
def y_list (m : xD) (x y : Int) : Int := if (x = -1 ∨ (0 ≤ x ∧ x < m 292 0)) ∧ 0 ≤ y then sNum m (xbs (fun i => decide (¬ sVal m i = 0 ∧ (x = -1 ∨ bFol m x.toNat i = true))) (nN m)) y else -1
theorem ls_hit {m : xD} {x y : Int} (hI : Inv m) {j k : Nat} (hj : j < nN m) (hQ : (¬ sVal m j = 0 ∧ (x = -1 ∨ bFol m x.toNat j = true))) (hp : xcnt (fun q => bBef m q j) (nN m) = k) (e : ((xcnt (fun i => decide ((¬ sVal m i = 0 ∧ (x = -1 ∨ bFol m x.toNat i = true)) ∧ xcnt (fun q => bBef m q i) (nN m) < k)) (nN m) : Nat) : Int) + ((xcnt (fun i => decide ((¬ sVal m i = 0 ∧ (x = -1 ∨ bFol m x.toNat i = true)) ∧ xcnt (fun q => bBef m q i) (nN m) = k)) j : Nat) : Int) = y) : ((j : Nat) : Int) = sNum m (xbs (fun i => decide (¬ sVal m i = 0 ∧ (x = -1 ∨ bFol m x.toNat i = true))) (nN m)) y := by
  have z : xcnt (fun i => decide ((¬ sVal m i = 0 ∧ (x = -1 ∨ bFol m x.toNat i = true)) ∧ xcnt (fun q => bBef m q i) (nN m) = k)) j = 0 := (xcnt_0 j).mpr (fun i hi hh => by
    have h := (of_decide_eq_true hh).2
    have := pl_inj hI (show i < nN m by omega) hj (h.trans hp.symm)
    omega)
  have c : xcnt (fun i => decide ((¬ sVal m i = 0 ∧ (x = -1 ∨ bFol m x.toNat i = true)) ∧ xcnt (fun q => bBef m q i) (nN m) < k)) (nN m) = xcnt (fun i => decide ((¬ sVal m i = 0 ∧ (x = -1 ∨ bFol m x.toNat i = true)) ∧ kK m i < kK m j)) (nN m) := xcnt_cg (nN m) (fun i hi => by
    rw [decide_eq_true_iff, decide_eq_true_iff]
    have := pl_iff hI hi hj
    rw [hp] at this
    rw [this])
  unfold sNum
  refine xiyf1 hj (fun i hi hh => ?_) ⟨xbs_bit.mpr ⟨hj, decide_eq_true hQ⟩, ?_⟩
  · have b := xbs_bit.mp hh.1
    have q := of_decide_eq_true b.2
    have e2 : xcnt (fun i_1 => decide ((xbs (fun i => decide (¬ sVal m i = 0 ∧ (x = -1 ∨ bFol m x.toNat i = true))) (nN m)).testBit i_1 = true ∧ kK m i_1 < kK m i)) (nN m) = xcnt (fun b => decide ((¬ sVal m b = 0 ∧ (x = -1 ∨ bFol m x.toNat b = true)) ∧ kK m b < kK m i)) (nN m) := xcnt_cg (nN m) (fun a ha => by
      rw [decide_eq_true_iff, decide_eq_true_iff, xbs_bit, decide_eq_true_iff]
      exact ⟨fun h => ⟨h.1.2, h.2⟩, fun h => ⟨⟨ha, h.1⟩, h.2⟩⟩)
    have h2 := hh.2
    rw [e2] at h2
    have h3 : xcnt (fun b => decide ((¬ sVal m b = 0 ∧ (x = -1 ∨ bFol m x.toNat b = true)) ∧ kK m b < kK m i)) (nN m) = xcnt (fun i => decide ((¬ sVal m i = 0 ∧ (x = -1 ∨ bFol m x.toNat i = true)) ∧ kK m i < kK m j)) (nN m) := by omega
    by_cases c1 : kK m i < kK m j
    · have := xcnt_ml (p := fun a => decide ((¬ sVal m a = 0 ∧ (x = -1 ∨ bFol m x.toNat a = true)) ∧ kK m a < kK m i)) (q := fun a => decide ((¬ sVal m a = 0 ∧ (x = -1 ∨ bFol m x.toNat a = true)) ∧ kK m a < kK m j)) (j := i) (nN m) (by omega) (fun a ha h => by
        have h := of_decide_eq_true h
        exact decide_eq_true ⟨h.1, by omega⟩) (fun h => by
        have h := of_decide_eq_true h
        have := h.2
        omega) (decide_eq_true ⟨q, c1⟩)
      omega
    · by_cases c2 : kK m j < kK m i
      · have := xcnt_ml (p := fun a => decide ((¬ sVal m a = 0 ∧ (x = -1 ∨ bFol m x.toNat a = true)) ∧ kK m a < kK m j)) (q := fun a => decide ((¬ sVal m a = 0 ∧ (x = -1 ∨ bFol m x.toNat a = true)) ∧ kK m a < kK m i)) (j := j) (nN m) hj (fun a ha h => by
          have h := of_decide_eq_true h
          exact decide_eq_true ⟨h.1, by omega⟩) (fun h => by
          have h := of_decide_eq_true h
          have := h.2
          omega) (decide_eq_true ⟨hQ, c2⟩)
        omega
      · have := iK hI (show i < nN m by omega) hj (by omega)
        omega
  · have e2 : xcnt (fun i_1 => decide ((xbs (fun i => decide (¬ sVal m i = 0 ∧ (x = -1 ∨ bFol m x.toNat i = true))) (nN m)).testBit i_1 = true ∧ kK m i_1 < kK m j)) (nN m) = xcnt (fun i => decide ((¬ sVal m i = 0 ∧ (x = -1 ∨ bFol m x.toNat i = true)) ∧ kK m i < kK m j)) (nN m) := xcnt_cg (nN m) (fun a ha => by
      rw [decide_eq_true_iff, decide_eq_true_iff, xbs_bit, decide_eq_true_iff]
      exact ⟨fun h => ⟨h.1.2, h.2⟩, fun h => ⟨⟨ha, h.1⟩, h.2⟩⟩)
    rw [e2]
    omega
theorem ls_miss {m : xD} {x y v : Int} (hI : Inv m) (h0 : 0 ≤ v) (e : v + ((xcnt (fun i => decide ((¬ sVal m i = 0 ∧ (x = -1 ∨ bFol m x.toNat i = true)) ∧ xcnt (fun q => bBef m q i) (nN m) < nN m)) (nN m) : Nat) : Int) = y) : -5 = sNum m (xbs (fun i => decide (¬ sVal m i = 0 ∧ (x = -1 ∨ bFol m x.toNat i = true))) (nN m)) y := by
  unfold sNum
  refine xiyf0 (Nat.le_refl _) (fun i hi hh => ?_)
  have b := xbs_bit.mp hh.1
  have q := of_decide_eq_true b.2
  have e2 : xcnt (fun i_1 => decide ((xbs (fun i => decide (¬ sVal m i = 0 ∧ (x = -1 ∨ bFol m x.toNat i = true))) (nN m)).testBit i_1 = true ∧ kK m i_1 < kK m i)) (nN m) = xcnt (fun b => decide ((¬ sVal m b = 0 ∧ (x = -1 ∨ bFol m x.toNat b = true)) ∧ kK m b < kK m i)) (nN m) := xcnt_cg (nN m) (fun a ha => by
    rw [decide_eq_true_iff, decide_eq_true_iff, xbs_bit, decide_eq_true_iff]
    exact ⟨fun h => ⟨h.1.2, h.2⟩, fun h => ⟨⟨ha, h.1⟩, h.2⟩⟩)
  have h2 := hh.2
  rw [e2] at h2
  have := xcnt_ml (p := fun a => decide ((¬ sVal m a = 0 ∧ (x = -1 ∨ bFol m x.toNat a = true)) ∧ kK m a < kK m i)) (q := fun i => decide ((¬ sVal m i = 0 ∧ (x = -1 ∨ bFol m x.toNat i = true)) ∧ xcnt (fun q => bBef m q i) (nN m) < nN m)) (j := i) (nN m) hi (fun a ha h => by
    have h := of_decide_eq_true h
    exact decide_eq_true ⟨h.1, pl_N hI ha⟩) (fun h => by
    have h := of_decide_eq_true h
    have := h.2
    omega) (decide_eq_true ⟨q, pl_N hI hi⟩)
  omega
theorem ls_next {m : xD} {x : Int} {k : Nat} : xcnt (fun i => decide ((¬ sVal m i = 0 ∧ (x = -1 ∨ bFol m x.toNat i = true)) ∧ xcnt (fun q => bBef m q i) (nN m) < k + 1)) (nN m) = xcnt (fun i => decide ((¬ sVal m i = 0 ∧ (x = -1 ∨ bFol m x.toNat i = true)) ∧ xcnt (fun q => bBef m q i) (nN m) < k)) (nN m) + xcnt (fun i => decide ((¬ sVal m i = 0 ∧ (x = -1 ∨ bFol m x.toNat i = true)) ∧ xcnt (fun q => bBef m q i) (nN m) = k)) (nN m) := xcnt_ad (nN m) (fun i hi => by
  rw [decide_eq_true_iff, decide_eq_true_iff, decide_eq_true_iff]
  constructor
  · intro h
    by_cases c : xcnt (fun q => bBef m q i) (nN m) = k
    · exact Or.inr ⟨h.1, c⟩
    · exact Or.inl ⟨h.1, by have := h.2; omega⟩
  · rintro (h | h)
    · exact ⟨h.1, by have := h.2; omega⟩
    · exact ⟨h.1, by have := h.2; omega⟩) (fun i hi hh => by
  have h1 := (of_decide_eq_true hh.1).2
  have h2 := (of_decide_eq_true hh.2).2
  omega)
theorem ls_0 {m : xD} {x : Int} : xcnt (fun i => decide ((¬ sVal m i = 0 ∧ (x = -1 ∨ bFol m x.toNat i = true)) ∧ xcnt (fun q => bBef m q i) (nN m) < 0)) (nN m) = 0 := (xcnt_0 (nN m)).mpr (fun i hi hh => by
  have h := (of_decide_eq_true hh).2
  omega)
theorem n_list {d : Nat} {g : xG} {t m : xD} {x y : Int} (L : xLay g) (hM : Mo t m) (hI : Inv m) (hy : xr32 y) : xCall (d + 3) 137 [(2, ((292 : Nat) : Int)), (0, x), (0, y)] g t (xQ g t (some (0, y_list m x y))) := by
  show xOk (d + 3) 137 0 [(2, ((292 : Nat) : Int)), (0, x), (0, y), (3, 0), (3, 0), (3, 0)] [] g t _
  have iNn_ := iNn hI
  have xy_ : -2147483648 ≤ y ∧ y < 2147483648 := hy
  refine xk_load rfl (p := 1) rfl rfl ?_
  refine xk_push rfl (p := 2) rfl ?_
  refine xk_icmp rfl (p := 5) rfl (fun c2_1 => ?_) (fun c2_1 => ?_)
  · replace c2_1 : x = (-1) := c2_1
    refine xk_load rfl (p := 14) rfl rfl ?_
    refine xk_if rfl (p := 17) rfl (fun c14_2 => ?_) (fun c14_2 => ?_)
    · replace c14_2 : 0 ≤ y := c14_2
      refine xk_load rfl (p := 20) rfl rfl ?_
      refine xk_store rfl (p := 21) rfl (by decide) (Nat.le_of_ble_eq_true rfl) (ls' := [(2, ((292 : Nat) : Int)), (0, x), (0, y), (0, y), (3, 0), (3, 0)]) rfl ?_
      refine xk_push rfl (p := 22) rfl ?_
      refine xk_store rfl (p := 24) rfl (by decide) (Nat.le_of_ble_eq_true rfl) (ls' := [(2, ((292 : Nat) : Int)), (0, x), (0, y), (0, y), (0, 0), (3, 0)]) rfl ?_
      have lp3 : ∀ k : Nat, k ≤ nN m → ∀ (v : Int) (w5 : xV), (0 ≤ v) → (v + ((xcnt (fun i => decide ((¬ sVal m i = 0 ∧ (x = -1 ∨ bFol m x.toNat i = true)) ∧ xcnt (fun q => bBef m q i) (nN m) < k)) (nN m) : Nat) : Int) = y) → xOk (d + 3) 137 24 [(2, ((292 : Nat) : Int)), (0, x), (0, y), (0, v), (0, ((k : Nat) : Int)), w5] [] g t (xQ g t (some (0, y_list m x y))) := by
        refine xk_up (nN m) (fun k hkk ih3 v w5 ho1 ho2 => ?_)
        refine xk_load rfl (p := 26) rfl rfl ?_
        refine xk_load rfl (p := 27) rfl rfl ?_
        refine xk_getf rfl (p := 30) rfl (xob (ly_m L) (by decide)) (v := (0, ((nN m : Nat) : Int))) (xsl0 rfl ((hM 292 0 (by decide)).trans (iNn hI).1)) ?_
        have iNn_ := iNn hI
        refine xk_icmp rfl (p := 33) rfl (fun c30_4 => ?_) (fun c30_4 => ?_)
        · replace c30_4 : ((nN m : Nat) : Int) ≤ ((k : Nat) : Int) := c30_4
          refine xk_push rfl (p := 107) rfl ?_
          refine xk_rete rfl (rfl) ?_
          rw [show k = nN m by omega] at ho2
          exact (ls_miss hI ho1 ho2).trans (if_pos (by omega)).symm
        · replace c30_4 : ¬ (((nN m : Nat) : Int) ≤ ((k : Nat) : Int)) := c30_4
          refine xk_push rfl (p := 34) rfl ?_
          refine xk_store rfl (p := 36) rfl (by decide) (Nat.le_of_ble_eq_true rfl) (ls' := [(2, ((292 : Nat) : Int)), (0, x), (0, y), (0, v), (0, ((k : Nat) : Int)), (0, 0)]) rfl ?_
          have lp5 : ∀ j : Nat, j ≤ nN m → ∀ (w : Int), (0 ≤ w) → (w + ((xcnt (fun i => decide ((¬ sVal m i = 0 ∧ (x = -1 ∨ bFol m x.toNat i = true)) ∧ xcnt (fun q => bBef m q i) (nN m) < k)) (nN m) : Nat) : Int) + ((xcnt (fun i => decide ((¬ sVal m i = 0 ∧ (x = -1 ∨ bFol m x.toNat i = true)) ∧ xcnt (fun q => bBef m q i) (nN m) = k)) j : Nat) : Int) = y) → xOk (d + 3) 137 36 [(2, ((292 : Nat) : Int)), (0, x), (0, y), (0, w), (0, ((k : Nat) : Int)), (0, ((j : Nat) : Int))] [] g t (xQ g t (some (0, y_list m x y))) := by
            refine xk_up (nN m) (fun j hkj ih5 w hi1 hi2 => ?_)
            refine xk_load rfl (p := 38) rfl rfl ?_
            refine xk_load rfl (p := 39) rfl rfl ?_
            refine xk_getf rfl (p := 42) rfl (xob (ly_m L) (by decide)) (v := (0, ((nN m : Nat) : Int))) (xsl0 rfl ((hM 292 0 (by decide)).trans (iNn hI).1)) ?_
            have iNn_ := iNn hI
            refine xk_icmp rfl (p := 45) rfl (fun c42_6 => ?_) (fun c42_6 => ?_)
            · replace c42_6 : ((nN m : Nat) : Int) ≤ ((j : Nat) : Int) := c42_6
              refine xk_inc1 rfl (p := 102) rfl (n := k) rfl (by omega) (ls' := [(2, ((292 : Nat) : Int)), (0, x), (0, y), (0, w), (0, ((k + 1 : Nat) : Int)), (0, ((j : Nat) : Int))]) rfl ?_
              refine xk_goto rfl ?_
              exact ih3 (by omega) w (0, ((j : Nat) : Int)) (by omega) (by 
                have jn_ : j = nN m := by omega
                rw [jn_] at hi2
                rw [ls_next]
                omega)
            · replace c42_6 : ¬ (((nN m : Nat) : Int) ≤ ((j : Nat) : Int)) := c42_6
              refine xk_load rfl (p := 46) rfl rfl ?_
              refine xk_load rfl (p := 48) rfl rfl ?_
              refine xk_callp rfl (p := 51) rfl (by decide) rfl (Nat.le_of_ble_eq_true rfl) (Nat.le_of_ble_eq_true rfl) (xrv (ly_m L) (by decide)) (as := [(2, ((292 : Nat) : Int)), (0, ((j : Nat) : Int))]) (r := []) rfl (v := (0, ((xcnt (fun q => bBef m q j) (nN m) : Nat) : Int))) (n_place L hM hI (show j < nN m by omega)) ?_
              have xcnt_ := xcnt_le (p := fun q => bBef m q j) (nN m)
              refine xk_load rfl (p := 53) rfl rfl ?_
              refine xk_icmp rfl (p := 56) rfl (fun c53_7 => ?_) (fun c53_7 => ?_)
              · replace c53_7 : ¬ (((xcnt (fun q => bBef m q j) (nN m) : Nat) : Int) = ((k : Nat) : Int)) := c53_7
                refine xk_inc1 rfl (p := 96) rfl (n := j) rfl (by omega) (ls' := [(2, ((292 : Nat) : Int)), (0, x), (0, y), (0, w), (0, ((k : Nat) : Int)), (0, ((j + 1 : Nat) : Int))]) rfl ?_
                refine xk_goto rfl ?_
                exact ih5 (by omega) w (by omega) (by 
                  by_cases c : (¬ sVal m j = 0 ∧ (x = -1 ∨ bFol m x.toNat j = true)) ∧ xcnt (fun q => bBef m q j) (nN m) = k
                  · have e : xcnt (fun i => decide ((¬ sVal m i = 0 ∧ (x = -1 ∨ bFol m x.toNat i = true)) ∧ xcnt (fun q => bBef m q i) (nN m) = k)) j + 1 = xcnt (fun i => decide ((¬ sVal m i = 0 ∧ (x = -1 ∨ bFol m x.toNat i = true)) ∧ xcnt (fun q => bBef m q i) (nN m) = k)) (j + 1) := xcnt_in rfl (decide_eq_true c)
                    first | omega | (exfalso; rcases c.1.2 with h | h <;> first | omega | exact absurd h (by assumption))
                  · have e : xcnt (fun i => decide ((¬ sVal m i = 0 ∧ (x = -1 ∨ bFol m x.toNat i = true)) ∧ xcnt (fun q => bBef m q i) (nN m) = k)) j = xcnt (fun i => decide ((¬ sVal m i = 0 ∧ (x = -1 ∨ bFol m x.toNat i = true)) ∧ xcnt (fun q => bBef m q i) (nN m) = k)) (j + 1) := xcnt_out rfl (fun h => c (of_decide_eq_true h))
                    first | omega | exact absurd ⟨⟨by omega, by first | exact Or.inl (by omega) | exact Or.inr (by assumption)⟩, by omega⟩ c)
              · replace c53_7 : ((xcnt (fun q => bBef m q j) (nN m) : Nat) : Int) = ((k : Nat) : Int) := Decidable.not_not.mp c53_7
                refine xk_load rfl (p := 57) rfl rfl ?_
                refine xk_load rfl (p := 59) rfl rfl ?_
                refine xk_callp rfl (p := 62) rfl (by decide) rfl (Nat.le_of_ble_eq_true rfl) (Nat.le_of_ble_eq_true rfl) (xrv (ly_m L) (by decide)) (as := [(2, ((292 : Nat) : Int)), (0, ((j : Nat) : Int))]) (r := []) rfl (v := (0, sVal m j)) (n_value L hM hI (show j < 12 by omega)) ?_
                refine xk_if rfl (p := 65) rfl (fun c62_8 => ?_) (fun c62_8 => ?_)
                · replace c62_8 : sVal m j = 0 := c62_8
                  refine xk_inc1 rfl (p := 96) rfl (n := j) rfl (by omega) (ls' := [(2, ((292 : Nat) : Int)), (0, x), (0, y), (0, w), (0, ((k : Nat) : Int)), (0, ((j + 1 : Nat) : Int))]) rfl ?_
                  refine xk_goto rfl ?_
                  exact ih5 (by omega) w (by omega) (by 
                    by_cases c : (¬ sVal m j = 0 ∧ (x = -1 ∨ bFol m x.toNat j = true)) ∧ xcnt (fun q => bBef m q j) (nN m) = k
                    · have e : xcnt (fun i => decide ((¬ sVal m i = 0 ∧ (x = -1 ∨ bFol m x.toNat i = true)) ∧ xcnt (fun q => bBef m q i) (nN m) = k)) j + 1 = xcnt (fun i => decide ((¬ sVal m i = 0 ∧ (x = -1 ∨ bFol m x.toNat i = true)) ∧ xcnt (fun q => bBef m q i) (nN m) = k)) (j + 1) := xcnt_in rfl (decide_eq_true c)
                      first | omega | (exfalso; rcases c.1.2 with h | h <;> first | omega | exact absurd h (by assumption))
                    · have e : xcnt (fun i => decide ((¬ sVal m i = 0 ∧ (x = -1 ∨ bFol m x.toNat i = true)) ∧ xcnt (fun q => bBef m q i) (nN m) = k)) j = xcnt (fun i => decide ((¬ sVal m i = 0 ∧ (x = -1 ∨ bFol m x.toNat i = true)) ∧ xcnt (fun q => bBef m q i) (nN m) = k)) (j + 1) := xcnt_out rfl (fun h => c (of_decide_eq_true h))
                      first | omega | exact absurd ⟨⟨by omega, by first | exact Or.inl (by omega) | exact Or.inr (by assumption)⟩, by omega⟩ c)
                · replace c62_8 : ¬ (sVal m j = 0) := c62_8
                  refine xk_load rfl (p := 66) rfl rfl ?_
                  refine xk_push rfl (p := 67) rfl ?_
                  refine xk_icmp rfl (p := 70) rfl (fun c67_9 => ?_) (fun c67_9 => ?_)
                  · replace c67_9 : x = (-1) := c67_9
                    refine xk_load rfl (p := 84) rfl rfl ?_
                    refine xk_if rfl (p := 87) rfl (fun c84_10 => ?_) (fun c84_10 => ?_)
                    · replace c84_10 : ¬ (w = 0) := c84_10
                      have e11 : xadd (w) (-1) = w - 1 := (xadd_r (by omega) (by omega)).trans (by omega)
                      refine xk_iinc rfl (p := 93) rfl (x := w) rfl (ls' := [(2, ((292 : Nat) : Int)), (0, x), (0, y), (0, (w - 1)), (0, ((k : Nat) : Int)), (0, ((j : Nat) : Int))]) (by rw [e11]; rfl) ?_
                      clear e11
                      refine xk_inc1 rfl (p := 96) rfl (n := j) rfl (by omega) (ls' := [(2, ((292 : Nat) : Int)), (0, x), (0, y), (0, (w - 1)), (0, ((k : Nat) : Int)), (0, ((j + 1 : Nat) : Int))]) rfl ?_
                      refine xk_goto rfl ?_
                      exact ih5 (by omega) (w - 1) (by omega) (by 
                        by_cases c : (¬ sVal m j = 0 ∧ (x = -1 ∨ bFol m x.toNat j = true)) ∧ xcnt (fun q => bBef m q j) (nN m) = k
                        · have e : xcnt (fun i => decide ((¬ sVal m i = 0 ∧ (x = -1 ∨ bFol m x.toNat i = true)) ∧ xcnt (fun q => bBef m q i) (nN m) = k)) j + 1 = xcnt (fun i => decide ((¬ sVal m i = 0 ∧ (x = -1 ∨ bFol m x.toNat i = true)) ∧ xcnt (fun q => bBef m q i) (nN m) = k)) (j + 1) := xcnt_in rfl (decide_eq_true c)
                          first | omega | (exfalso; rcases c.1.2 with h | h <;> first | omega | exact absurd h (by assumption))
                        · have e : xcnt (fun i => decide ((¬ sVal m i = 0 ∧ (x = -1 ∨ bFol m x.toNat i = true)) ∧ xcnt (fun q => bBef m q i) (nN m) = k)) j = xcnt (fun i => decide ((¬ sVal m i = 0 ∧ (x = -1 ∨ bFol m x.toNat i = true)) ∧ xcnt (fun q => bBef m q i) (nN m) = k)) (j + 1) := xcnt_out rfl (fun h => c (of_decide_eq_true h))
                          first | omega | exact absurd ⟨⟨by omega, by first | exact Or.inl (by omega) | exact Or.inr (by assumption)⟩, by omega⟩ c)
                    · replace c84_10 : w = 0 := Decidable.not_not.mp c84_10
                      refine xk_load rfl (p := 89) rfl rfl ?_
                      refine xk_rete rfl (rfl) ?_
                      refine (ls_hit (k := k) hI (by omega) ⟨by omega, by first | exact Or.inl (by omega) | exact Or.inr (by assumption)⟩ (by omega) (by omega)).trans (if_pos (by omega)).symm
                  · replace c67_9 : ¬ (x = (-1)) := c67_9
                    refine xk_load rfl (p := 71) rfl rfl ?_
                    refine xk_load rfl (p := 72) rfl rfl ?_
                    refine xk_load rfl (p := 74) rfl rfl ?_
                    refine xk_stk (show _ = (0, ((j : Nat) : Int)) :: (0, ((x.toNat : Nat) : Int)) :: [(2, ((292 : Nat) : Int))] from congrArg (fun z => ((0, ((j : Nat) : Int)) : xV) :: ((0, z) : xV) :: [(2, ((292 : Nat) : Int))]) (Int.toNat_of_nonneg (show 0 ≤ x by omega)).symm) ?_
                    refine xk_callp rfl (p := 77) rfl (by decide) rfl (Nat.le_of_ble_eq_true rfl) (Nat.le_of_ble_eq_true rfl) (xrv (ly_m L) (by decide)) (as := [(2, ((292 : Nat) : Int)), (0, ((x.toNat : Nat) : Int)), (0, ((j : Nat) : Int))]) (r := []) rfl (v := (0, (if bFol m (x.toNat) j = true then (1 : Int) else 0))) (n_isFolder L hM hI (show x.toNat < nN m by omega) (show j < nN m by omega)) ?_
                    refine xk_if rfl (p := 80) rfl (fun c77_12 => ?_) (fun c77_12 => ?_)
                    · replace c77_12 : bFol m (x.toNat) j = true := xb_n0 c77_12
                      refine xk_load rfl (p := 84) rfl rfl ?_
                      refine xk_if rfl (p := 87) rfl (fun c84_13 => ?_) (fun c84_13 => ?_)
                      · replace c84_13 : ¬ (w = 0) := c84_13
                        have e14 : xadd (w) (-1) = w - 1 := (xadd_r (by omega) (by omega)).trans (by omega)
                        refine xk_iinc rfl (p := 93) rfl (x := w) rfl (ls' := [(2, ((292 : Nat) : Int)), (0, x), (0, y), (0, (w - 1)), (0, ((k : Nat) : Int)), (0, ((j : Nat) : Int))]) (by rw [e14]; rfl) ?_
                        clear e14
                        refine xk_inc1 rfl (p := 96) rfl (n := j) rfl (by omega) (ls' := [(2, ((292 : Nat) : Int)), (0, x), (0, y), (0, (w - 1)), (0, ((k : Nat) : Int)), (0, ((j + 1 : Nat) : Int))]) rfl ?_
                        refine xk_goto rfl ?_
                        exact ih5 (by omega) (w - 1) (by omega) (by 
                          by_cases c : (¬ sVal m j = 0 ∧ (x = -1 ∨ bFol m x.toNat j = true)) ∧ xcnt (fun q => bBef m q j) (nN m) = k
                          · have e : xcnt (fun i => decide ((¬ sVal m i = 0 ∧ (x = -1 ∨ bFol m x.toNat i = true)) ∧ xcnt (fun q => bBef m q i) (nN m) = k)) j + 1 = xcnt (fun i => decide ((¬ sVal m i = 0 ∧ (x = -1 ∨ bFol m x.toNat i = true)) ∧ xcnt (fun q => bBef m q i) (nN m) = k)) (j + 1) := xcnt_in rfl (decide_eq_true c)
                            first | omega | (exfalso; rcases c.1.2 with h | h <;> first | omega | exact absurd h (by assumption))
                          · have e : xcnt (fun i => decide ((¬ sVal m i = 0 ∧ (x = -1 ∨ bFol m x.toNat i = true)) ∧ xcnt (fun q => bBef m q i) (nN m) = k)) j = xcnt (fun i => decide ((¬ sVal m i = 0 ∧ (x = -1 ∨ bFol m x.toNat i = true)) ∧ xcnt (fun q => bBef m q i) (nN m) = k)) (j + 1) := xcnt_out rfl (fun h => c (of_decide_eq_true h))
                            first | omega | exact absurd ⟨⟨by omega, by first | exact Or.inl (by omega) | exact Or.inr (by assumption)⟩, by omega⟩ c)
                      · replace c84_13 : w = 0 := Decidable.not_not.mp c84_13
                        refine xk_load rfl (p := 89) rfl rfl ?_
                        refine xk_rete rfl (rfl) ?_
                        refine (ls_hit (k := k) hI (by omega) ⟨by omega, by first | exact Or.inl (by omega) | exact Or.inr (by assumption)⟩ (by omega) (by omega)).trans (if_pos (by omega)).symm
                    · replace c77_12 : ¬ (bFol m (x.toNat) j = true) := xb_e1 c77_12
                      refine xk_goto rfl ?_
                      refine xk_inc1 rfl (p := 96) rfl (n := j) rfl (by omega) (ls' := [(2, ((292 : Nat) : Int)), (0, x), (0, y), (0, w), (0, ((k : Nat) : Int)), (0, ((j + 1 : Nat) : Int))]) rfl ?_
                      refine xk_goto rfl ?_
                      exact ih5 (by omega) w (by omega) (by 
                        by_cases c : (¬ sVal m j = 0 ∧ (x = -1 ∨ bFol m x.toNat j = true)) ∧ xcnt (fun q => bBef m q j) (nN m) = k
                        · have e : xcnt (fun i => decide ((¬ sVal m i = 0 ∧ (x = -1 ∨ bFol m x.toNat i = true)) ∧ xcnt (fun q => bBef m q i) (nN m) = k)) j + 1 = xcnt (fun i => decide ((¬ sVal m i = 0 ∧ (x = -1 ∨ bFol m x.toNat i = true)) ∧ xcnt (fun q => bBef m q i) (nN m) = k)) (j + 1) := xcnt_in rfl (decide_eq_true c)
                          first | omega | (exfalso; rcases c.1.2 with h | h <;> first | omega | exact absurd h (by assumption))
                        · have e : xcnt (fun i => decide ((¬ sVal m i = 0 ∧ (x = -1 ∨ bFol m x.toNat i = true)) ∧ xcnt (fun q => bBef m q i) (nN m) = k)) j = xcnt (fun i => decide ((¬ sVal m i = 0 ∧ (x = -1 ∨ bFol m x.toNat i = true)) ∧ xcnt (fun q => bBef m q i) (nN m) = k)) (j + 1) := xcnt_out rfl (fun h => c (of_decide_eq_true h))
                          first | omega | exact absurd ⟨⟨by omega, by first | exact Or.inl (by omega) | exact Or.inr (by assumption)⟩, by omega⟩ c)
          exact lp5 0 (by omega) v (by omega) (by 
            show v + ((xcnt (fun i => decide ((¬ sVal m i = 0 ∧ (x = -1 ∨ bFol m x.toNat i = true)) ∧ xcnt (fun q => bBef m q i) (nN m) < k)) (nN m) : Nat) : Int) + ((0 : Nat) : Int) = y
            omega)
      exact lp3 0 (by omega) y (3, 0) (by omega) (by rw [ls_0]; omega)
    · replace c14_2 : ¬ (0 ≤ y) := c14_2
      refine xk_push rfl (p := 18) rfl ?_
      refine xk_rete rfl (rfl) ?_
      exact (if_neg (by omega)).symm
  · replace c2_1 : ¬ (x = (-1)) := c2_1
    refine xk_load rfl (p := 6) rfl rfl ?_
    refine xk_load rfl (p := 7) rfl rfl ?_
    refine xk_callp rfl (p := 10) rfl (by decide) rfl (Nat.le_of_ble_eq_true rfl) (Nat.le_of_ble_eq_true rfl) (xrv (ly_m L) (by decide)) (as := [(2, ((292 : Nat) : Int)), (0, x)]) (r := []) rfl (v := (0, (if 0 ≤ x ∧ x < m 292 0 then (1 : Int) else 0))) (n_isName L hM hI) ?_
    have iNn_ := iNn hI
    refine xk_if rfl (p := 13) rfl (fun c10_15 => ?_) (fun c10_15 => ?_)
    · replace c10_15 : ¬ (0 ≤ x ∧ x < m 292 0) := xb_e0 c10_15
      refine xk_push rfl (p := 18) rfl ?_
      refine xk_rete rfl (rfl) ?_
      exact (if_neg (by omega)).symm
    · replace c10_15 : 0 ≤ x ∧ x < m 292 0 := xb_n0 c10_15
      refine xk_load rfl (p := 14) rfl rfl ?_
      refine xk_if rfl (p := 17) rfl (fun c14_16 => ?_) (fun c14_16 => ?_)
      · replace c14_16 : 0 ≤ y := c14_16
        refine xk_load rfl (p := 20) rfl rfl ?_
        refine xk_store rfl (p := 21) rfl (by decide) (Nat.le_of_ble_eq_true rfl) (ls' := [(2, ((292 : Nat) : Int)), (0, x), (0, y), (0, y), (3, 0), (3, 0)]) rfl ?_
        refine xk_push rfl (p := 22) rfl ?_
        refine xk_store rfl (p := 24) rfl (by decide) (Nat.le_of_ble_eq_true rfl) (ls' := [(2, ((292 : Nat) : Int)), (0, x), (0, y), (0, y), (0, 0), (3, 0)]) rfl ?_
        have lp17 : ∀ k : Nat, k ≤ nN m → ∀ (v : Int) (w5 : xV), (0 ≤ v) → (v + ((xcnt (fun i => decide ((¬ sVal m i = 0 ∧ (x = -1 ∨ bFol m x.toNat i = true)) ∧ xcnt (fun q => bBef m q i) (nN m) < k)) (nN m) : Nat) : Int) = y) → xOk (d + 3) 137 24 [(2, ((292 : Nat) : Int)), (0, x), (0, y), (0, v), (0, ((k : Nat) : Int)), w5] [] g t (xQ g t (some (0, y_list m x y))) := by
          refine xk_up (nN m) (fun k hkk ih17 v w5 ho1 ho2 => ?_)
          refine xk_load rfl (p := 26) rfl rfl ?_
          refine xk_load rfl (p := 27) rfl rfl ?_
          refine xk_getf rfl (p := 30) rfl (xob (ly_m L) (by decide)) (v := (0, ((nN m : Nat) : Int))) (xsl0 rfl ((hM 292 0 (by decide)).trans (iNn hI).1)) ?_
          have iNn_ := iNn hI
          refine xk_icmp rfl (p := 33) rfl (fun c30_18 => ?_) (fun c30_18 => ?_)
          · replace c30_18 : ((nN m : Nat) : Int) ≤ ((k : Nat) : Int) := c30_18
            refine xk_push rfl (p := 107) rfl ?_
            refine xk_rete rfl (rfl) ?_
            rw [show k = nN m by omega] at ho2
            exact (ls_miss hI ho1 ho2).trans (if_pos (by omega)).symm
          · replace c30_18 : ¬ (((nN m : Nat) : Int) ≤ ((k : Nat) : Int)) := c30_18
            refine xk_push rfl (p := 34) rfl ?_
            refine xk_store rfl (p := 36) rfl (by decide) (Nat.le_of_ble_eq_true rfl) (ls' := [(2, ((292 : Nat) : Int)), (0, x), (0, y), (0, v), (0, ((k : Nat) : Int)), (0, 0)]) rfl ?_
            have lp19 : ∀ j : Nat, j ≤ nN m → ∀ (w : Int), (0 ≤ w) → (w + ((xcnt (fun i => decide ((¬ sVal m i = 0 ∧ (x = -1 ∨ bFol m x.toNat i = true)) ∧ xcnt (fun q => bBef m q i) (nN m) < k)) (nN m) : Nat) : Int) + ((xcnt (fun i => decide ((¬ sVal m i = 0 ∧ (x = -1 ∨ bFol m x.toNat i = true)) ∧ xcnt (fun q => bBef m q i) (nN m) = k)) j : Nat) : Int) = y) → xOk (d + 3) 137 36 [(2, ((292 : Nat) : Int)), (0, x), (0, y), (0, w), (0, ((k : Nat) : Int)), (0, ((j : Nat) : Int))] [] g t (xQ g t (some (0, y_list m x y))) := by
              refine xk_up (nN m) (fun j hkj ih19 w hi1 hi2 => ?_)
              refine xk_load rfl (p := 38) rfl rfl ?_
              refine xk_load rfl (p := 39) rfl rfl ?_
              refine xk_getf rfl (p := 42) rfl (xob (ly_m L) (by decide)) (v := (0, ((nN m : Nat) : Int))) (xsl0 rfl ((hM 292 0 (by decide)).trans (iNn hI).1)) ?_
              have iNn_ := iNn hI
              refine xk_icmp rfl (p := 45) rfl (fun c42_20 => ?_) (fun c42_20 => ?_)
              · replace c42_20 : ((nN m : Nat) : Int) ≤ ((j : Nat) : Int) := c42_20
                refine xk_inc1 rfl (p := 102) rfl (n := k) rfl (by omega) (ls' := [(2, ((292 : Nat) : Int)), (0, x), (0, y), (0, w), (0, ((k + 1 : Nat) : Int)), (0, ((j : Nat) : Int))]) rfl ?_
                refine xk_goto rfl ?_
                exact ih17 (by omega) w (0, ((j : Nat) : Int)) (by omega) (by 
                  have jn_ : j = nN m := by omega
                  rw [jn_] at hi2
                  rw [ls_next]
                  omega)
              · replace c42_20 : ¬ (((nN m : Nat) : Int) ≤ ((j : Nat) : Int)) := c42_20
                refine xk_load rfl (p := 46) rfl rfl ?_
                refine xk_load rfl (p := 48) rfl rfl ?_
                refine xk_callp rfl (p := 51) rfl (by decide) rfl (Nat.le_of_ble_eq_true rfl) (Nat.le_of_ble_eq_true rfl) (xrv (ly_m L) (by decide)) (as := [(2, ((292 : Nat) : Int)), (0, ((j : Nat) : Int))]) (r := []) rfl (v := (0, ((xcnt (fun q => bBef m q j) (nN m) : Nat) : Int))) (n_place L hM hI (show j < nN m by omega)) ?_
                have xcnt_ := xcnt_le (p := fun q => bBef m q j) (nN m)
                refine xk_load rfl (p := 53) rfl rfl ?_
                refine xk_icmp rfl (p := 56) rfl (fun c53_21 => ?_) (fun c53_21 => ?_)
                · replace c53_21 : ¬ (((xcnt (fun q => bBef m q j) (nN m) : Nat) : Int) = ((k : Nat) : Int)) := c53_21
                  refine xk_inc1 rfl (p := 96) rfl (n := j) rfl (by omega) (ls' := [(2, ((292 : Nat) : Int)), (0, x), (0, y), (0, w), (0, ((k : Nat) : Int)), (0, ((j + 1 : Nat) : Int))]) rfl ?_
                  refine xk_goto rfl ?_
                  exact ih19 (by omega) w (by omega) (by 
                    by_cases c : (¬ sVal m j = 0 ∧ (x = -1 ∨ bFol m x.toNat j = true)) ∧ xcnt (fun q => bBef m q j) (nN m) = k
                    · have e : xcnt (fun i => decide ((¬ sVal m i = 0 ∧ (x = -1 ∨ bFol m x.toNat i = true)) ∧ xcnt (fun q => bBef m q i) (nN m) = k)) j + 1 = xcnt (fun i => decide ((¬ sVal m i = 0 ∧ (x = -1 ∨ bFol m x.toNat i = true)) ∧ xcnt (fun q => bBef m q i) (nN m) = k)) (j + 1) := xcnt_in rfl (decide_eq_true c)
                      first | omega | (exfalso; rcases c.1.2 with h | h <;> first | omega | exact absurd h (by assumption))
                    · have e : xcnt (fun i => decide ((¬ sVal m i = 0 ∧ (x = -1 ∨ bFol m x.toNat i = true)) ∧ xcnt (fun q => bBef m q i) (nN m) = k)) j = xcnt (fun i => decide ((¬ sVal m i = 0 ∧ (x = -1 ∨ bFol m x.toNat i = true)) ∧ xcnt (fun q => bBef m q i) (nN m) = k)) (j + 1) := xcnt_out rfl (fun h => c (of_decide_eq_true h))
                      first | omega | exact absurd ⟨⟨by omega, by first | exact Or.inl (by omega) | exact Or.inr (by assumption)⟩, by omega⟩ c)
                · replace c53_21 : ((xcnt (fun q => bBef m q j) (nN m) : Nat) : Int) = ((k : Nat) : Int) := Decidable.not_not.mp c53_21
                  refine xk_load rfl (p := 57) rfl rfl ?_
                  refine xk_load rfl (p := 59) rfl rfl ?_
                  refine xk_callp rfl (p := 62) rfl (by decide) rfl (Nat.le_of_ble_eq_true rfl) (Nat.le_of_ble_eq_true rfl) (xrv (ly_m L) (by decide)) (as := [(2, ((292 : Nat) : Int)), (0, ((j : Nat) : Int))]) (r := []) rfl (v := (0, sVal m j)) (n_value L hM hI (show j < 12 by omega)) ?_
                  refine xk_if rfl (p := 65) rfl (fun c62_22 => ?_) (fun c62_22 => ?_)
                  · replace c62_22 : sVal m j = 0 := c62_22
                    refine xk_inc1 rfl (p := 96) rfl (n := j) rfl (by omega) (ls' := [(2, ((292 : Nat) : Int)), (0, x), (0, y), (0, w), (0, ((k : Nat) : Int)), (0, ((j + 1 : Nat) : Int))]) rfl ?_
                    refine xk_goto rfl ?_
                    exact ih19 (by omega) w (by omega) (by 
                      by_cases c : (¬ sVal m j = 0 ∧ (x = -1 ∨ bFol m x.toNat j = true)) ∧ xcnt (fun q => bBef m q j) (nN m) = k
                      · have e : xcnt (fun i => decide ((¬ sVal m i = 0 ∧ (x = -1 ∨ bFol m x.toNat i = true)) ∧ xcnt (fun q => bBef m q i) (nN m) = k)) j + 1 = xcnt (fun i => decide ((¬ sVal m i = 0 ∧ (x = -1 ∨ bFol m x.toNat i = true)) ∧ xcnt (fun q => bBef m q i) (nN m) = k)) (j + 1) := xcnt_in rfl (decide_eq_true c)
                        first | omega | (exfalso; rcases c.1.2 with h | h <;> first | omega | exact absurd h (by assumption))
                      · have e : xcnt (fun i => decide ((¬ sVal m i = 0 ∧ (x = -1 ∨ bFol m x.toNat i = true)) ∧ xcnt (fun q => bBef m q i) (nN m) = k)) j = xcnt (fun i => decide ((¬ sVal m i = 0 ∧ (x = -1 ∨ bFol m x.toNat i = true)) ∧ xcnt (fun q => bBef m q i) (nN m) = k)) (j + 1) := xcnt_out rfl (fun h => c (of_decide_eq_true h))
                        first | omega | exact absurd ⟨⟨by omega, by first | exact Or.inl (by omega) | exact Or.inr (by assumption)⟩, by omega⟩ c)
                  · replace c62_22 : ¬ (sVal m j = 0) := c62_22
                    refine xk_load rfl (p := 66) rfl rfl ?_
                    refine xk_push rfl (p := 67) rfl ?_
                    refine xk_icmp rfl (p := 70) rfl (fun c67_23 => ?_) (fun c67_23 => ?_)
                    · replace c67_23 : x = (-1) := c67_23
                      refine xk_load rfl (p := 84) rfl rfl ?_
                      refine xk_if rfl (p := 87) rfl (fun c84_24 => ?_) (fun c84_24 => ?_)
                      · replace c84_24 : ¬ (w = 0) := c84_24
                        have e25 : xadd (w) (-1) = w - 1 := (xadd_r (by omega) (by omega)).trans (by omega)
                        refine xk_iinc rfl (p := 93) rfl (x := w) rfl (ls' := [(2, ((292 : Nat) : Int)), (0, x), (0, y), (0, (w - 1)), (0, ((k : Nat) : Int)), (0, ((j : Nat) : Int))]) (by rw [e25]; rfl) ?_
                        clear e25
                        refine xk_inc1 rfl (p := 96) rfl (n := j) rfl (by omega) (ls' := [(2, ((292 : Nat) : Int)), (0, x), (0, y), (0, (w - 1)), (0, ((k : Nat) : Int)), (0, ((j + 1 : Nat) : Int))]) rfl ?_
                        refine xk_goto rfl ?_
                        exact ih19 (by omega) (w - 1) (by omega) (by 
                          by_cases c : (¬ sVal m j = 0 ∧ (x = -1 ∨ bFol m x.toNat j = true)) ∧ xcnt (fun q => bBef m q j) (nN m) = k
                          · have e : xcnt (fun i => decide ((¬ sVal m i = 0 ∧ (x = -1 ∨ bFol m x.toNat i = true)) ∧ xcnt (fun q => bBef m q i) (nN m) = k)) j + 1 = xcnt (fun i => decide ((¬ sVal m i = 0 ∧ (x = -1 ∨ bFol m x.toNat i = true)) ∧ xcnt (fun q => bBef m q i) (nN m) = k)) (j + 1) := xcnt_in rfl (decide_eq_true c)
                            first | omega | (exfalso; rcases c.1.2 with h | h <;> first | omega | exact absurd h (by assumption))
                          · have e : xcnt (fun i => decide ((¬ sVal m i = 0 ∧ (x = -1 ∨ bFol m x.toNat i = true)) ∧ xcnt (fun q => bBef m q i) (nN m) = k)) j = xcnt (fun i => decide ((¬ sVal m i = 0 ∧ (x = -1 ∨ bFol m x.toNat i = true)) ∧ xcnt (fun q => bBef m q i) (nN m) = k)) (j + 1) := xcnt_out rfl (fun h => c (of_decide_eq_true h))
                            first | omega | exact absurd ⟨⟨by omega, by first | exact Or.inl (by omega) | exact Or.inr (by assumption)⟩, by omega⟩ c)
                      · replace c84_24 : w = 0 := Decidable.not_not.mp c84_24
                        refine xk_load rfl (p := 89) rfl rfl ?_
                        refine xk_rete rfl (rfl) ?_
                        refine (ls_hit (k := k) hI (by omega) ⟨by omega, by first | exact Or.inl (by omega) | exact Or.inr (by assumption)⟩ (by omega) (by omega)).trans (if_pos (by omega)).symm
                    · replace c67_23 : ¬ (x = (-1)) := c67_23
                      refine xk_load rfl (p := 71) rfl rfl ?_
                      refine xk_load rfl (p := 72) rfl rfl ?_
                      refine xk_load rfl (p := 74) rfl rfl ?_
                      refine xk_stk (show _ = (0, ((j : Nat) : Int)) :: (0, ((x.toNat : Nat) : Int)) :: [(2, ((292 : Nat) : Int))] from congrArg (fun z => ((0, ((j : Nat) : Int)) : xV) :: ((0, z) : xV) :: [(2, ((292 : Nat) : Int))]) (Int.toNat_of_nonneg (show 0 ≤ x by omega)).symm) ?_
                      refine xk_callp rfl (p := 77) rfl (by decide) rfl (Nat.le_of_ble_eq_true rfl) (Nat.le_of_ble_eq_true rfl) (xrv (ly_m L) (by decide)) (as := [(2, ((292 : Nat) : Int)), (0, ((x.toNat : Nat) : Int)), (0, ((j : Nat) : Int))]) (r := []) rfl (v := (0, (if bFol m (x.toNat) j = true then (1 : Int) else 0))) (n_isFolder L hM hI (show x.toNat < nN m by omega) (show j < nN m by omega)) ?_
                      refine xk_if rfl (p := 80) rfl (fun c77_26 => ?_) (fun c77_26 => ?_)
                      · replace c77_26 : bFol m (x.toNat) j = true := xb_n0 c77_26
                        refine xk_load rfl (p := 84) rfl rfl ?_
                        refine xk_if rfl (p := 87) rfl (fun c84_27 => ?_) (fun c84_27 => ?_)
                        · replace c84_27 : ¬ (w = 0) := c84_27
                          have e28 : xadd (w) (-1) = w - 1 := (xadd_r (by omega) (by omega)).trans (by omega)
                          refine xk_iinc rfl (p := 93) rfl (x := w) rfl (ls' := [(2, ((292 : Nat) : Int)), (0, x), (0, y), (0, (w - 1)), (0, ((k : Nat) : Int)), (0, ((j : Nat) : Int))]) (by rw [e28]; rfl) ?_
                          clear e28
                          refine xk_inc1 rfl (p := 96) rfl (n := j) rfl (by omega) (ls' := [(2, ((292 : Nat) : Int)), (0, x), (0, y), (0, (w - 1)), (0, ((k : Nat) : Int)), (0, ((j + 1 : Nat) : Int))]) rfl ?_
                          refine xk_goto rfl ?_
                          exact ih19 (by omega) (w - 1) (by omega) (by 
                            by_cases c : (¬ sVal m j = 0 ∧ (x = -1 ∨ bFol m x.toNat j = true)) ∧ xcnt (fun q => bBef m q j) (nN m) = k
                            · have e : xcnt (fun i => decide ((¬ sVal m i = 0 ∧ (x = -1 ∨ bFol m x.toNat i = true)) ∧ xcnt (fun q => bBef m q i) (nN m) = k)) j + 1 = xcnt (fun i => decide ((¬ sVal m i = 0 ∧ (x = -1 ∨ bFol m x.toNat i = true)) ∧ xcnt (fun q => bBef m q i) (nN m) = k)) (j + 1) := xcnt_in rfl (decide_eq_true c)
                              first | omega | (exfalso; rcases c.1.2 with h | h <;> first | omega | exact absurd h (by assumption))
                            · have e : xcnt (fun i => decide ((¬ sVal m i = 0 ∧ (x = -1 ∨ bFol m x.toNat i = true)) ∧ xcnt (fun q => bBef m q i) (nN m) = k)) j = xcnt (fun i => decide ((¬ sVal m i = 0 ∧ (x = -1 ∨ bFol m x.toNat i = true)) ∧ xcnt (fun q => bBef m q i) (nN m) = k)) (j + 1) := xcnt_out rfl (fun h => c (of_decide_eq_true h))
                              first | omega | exact absurd ⟨⟨by omega, by first | exact Or.inl (by omega) | exact Or.inr (by assumption)⟩, by omega⟩ c)
                        · replace c84_27 : w = 0 := Decidable.not_not.mp c84_27
                          refine xk_load rfl (p := 89) rfl rfl ?_
                          refine xk_rete rfl (rfl) ?_
                          refine (ls_hit (k := k) hI (by omega) ⟨by omega, by first | exact Or.inl (by omega) | exact Or.inr (by assumption)⟩ (by omega) (by omega)).trans (if_pos (by omega)).symm
                      · replace c77_26 : ¬ (bFol m (x.toNat) j = true) := xb_e1 c77_26
                        refine xk_goto rfl ?_
                        refine xk_inc1 rfl (p := 96) rfl (n := j) rfl (by omega) (ls' := [(2, ((292 : Nat) : Int)), (0, x), (0, y), (0, w), (0, ((k : Nat) : Int)), (0, ((j + 1 : Nat) : Int))]) rfl ?_
                        refine xk_goto rfl ?_
                        exact ih19 (by omega) w (by omega) (by 
                          by_cases c : (¬ sVal m j = 0 ∧ (x = -1 ∨ bFol m x.toNat j = true)) ∧ xcnt (fun q => bBef m q j) (nN m) = k
                          · have e : xcnt (fun i => decide ((¬ sVal m i = 0 ∧ (x = -1 ∨ bFol m x.toNat i = true)) ∧ xcnt (fun q => bBef m q i) (nN m) = k)) j + 1 = xcnt (fun i => decide ((¬ sVal m i = 0 ∧ (x = -1 ∨ bFol m x.toNat i = true)) ∧ xcnt (fun q => bBef m q i) (nN m) = k)) (j + 1) := xcnt_in rfl (decide_eq_true c)
                            first | omega | (exfalso; rcases c.1.2 with h | h <;> first | omega | exact absurd h (by assumption))
                          · have e : xcnt (fun i => decide ((¬ sVal m i = 0 ∧ (x = -1 ∨ bFol m x.toNat i = true)) ∧ xcnt (fun q => bBef m q i) (nN m) = k)) j = xcnt (fun i => decide ((¬ sVal m i = 0 ∧ (x = -1 ∨ bFol m x.toNat i = true)) ∧ xcnt (fun q => bBef m q i) (nN m) = k)) (j + 1) := xcnt_out rfl (fun h => c (of_decide_eq_true h))
                            first | omega | exact absurd ⟨⟨by omega, by first | exact Or.inl (by omega) | exact Or.inr (by assumption)⟩, by omega⟩ c)
            exact lp19 0 (by omega) v (by omega) (by 
              show v + ((xcnt (fun i => decide ((¬ sVal m i = 0 ∧ (x = -1 ∨ bFol m x.toNat i = true)) ∧ xcnt (fun q => bBef m q i) (nN m) < k)) (nN m) : Nat) : Int) + ((0 : Nat) : Int) = y
              omega)
        exact lp17 0 (by omega) y (3, 0) (by omega) (by rw [ls_0]; omega)
      · replace c14_16 : ¬ (0 ≤ y) := c14_16
        refine xk_push rfl (p := 18) rfl ?_
        refine xk_rete rfl (rfl) ?_
        exact (if_neg (by omega)).symm

theorem ls_z1 {m : xD} {x : Int} (h : x = -1) : xbs (fun i => decide (¬ sVal m i = 0)) (nN m) = xbs (fun i => decide (¬ sVal m i = 0 ∧ (x = -1 ∨ bFol m x.toNat i = true))) (nN m) := by
  apply Nat.eq_of_testBit_eq
  intro j
  rw [Bool.eq_iff_iff, xbs_bit, xbs_bit, decide_eq_true_iff, decide_eq_true_iff]
  exact ⟨fun a => ⟨a.1, a.2, Or.inl h⟩, fun a => ⟨a.1, a.2.1⟩⟩
theorem ls_z2 {m : xD} {x : Int} (h : ¬ x = -1) : (xbs (fun i => decide (¬ sVal m i = 0)) (nN m)) &&& (xbs (fun i => bFol m x.toNat i) (nN m)) = xbs (fun i => decide (¬ sVal m i = 0 ∧ (x = -1 ∨ bFol m x.toNat i = true))) (nN m) := by
  apply Nat.eq_of_testBit_eq
  intro j
  rw [Nat.testBit_and, Bool.eq_iff_iff, Bool.and_eq_true, xbs_bit, xbs_bit, xbs_bit, decide_eq_true_iff, decide_eq_true_iff]
  exact ⟨fun a => ⟨a.1.1, a.1.2, Or.inr a.2.2⟩, fun a => ⟨⟨a.1, a.2.1⟩, a.1, a.2.2.elim (fun c => absurd c h) id⟩⟩
theorem c_list {d : Nat} {g : xG} {t m : xD} {x y : Int} (L : xLay g) (hI : Inv m) (hR : Rep t 0 m) : xCall (d + 3) 73 [(2, ((2 : Nat) : Int)), (0, x), (0, y)] g t (zQ 0 g t (some (0, y_list m x y), m)) := by
  show xOk (d + 3) 73 0 [(2, ((2 : Nat) : Int)), (0, x), (0, y), (3, 0)] [] g t _
  have iNn_ := iNn hI
  have hs : 0 < 3 := by decide
  have hs1 : 1 < 3 := by decide
  have hs2 : 2 < 3 := by decide
  refine xk_load rfl (p := 1) rfl rfl ?_
  refine xk_push rfl (p := 2) rfl ?_
  refine xk_icmp rfl (p := 5) rfl (fun c2_1 => ?_) (fun c2_1 => ?_)
  · replace c2_1 : x = (-1) := c2_1
    refine xk_load rfl (p := 17) rfl rfl ?_
    refine xk_if rfl (p := 20) rfl (fun c17_2 => ?_) (fun c17_2 => ?_)
    · replace c17_2 : 0 ≤ y := c17_2
      refine xk_load rfl (p := 23) rfl rfl ?_
      refine xk_getf rfl (p := 26) rfl (xob (ly_x L) (by decide)) (v := (2, (((5 + 89 * 0) : Nat) : Int))) (xsl2 rfl (ly_x1 L)) ?_
      refine xk_callp rfl (p := 29) rfl (by decide) rfl (Nat.le_of_ble_eq_true rfl) (Nat.le_of_ble_eq_true rfl) (xrv (ly_st L hs) (by decide)) (as := [(2, (((5 + 89 * 0) : Nat) : Int))]) (r := []) rfl (v := (0, ((xbs (fun i => decide (¬ sVal m i = 0)) (nN m) : Nat) : Int))) (c_namesWithValue L hs hI hR) ?_
      have xbs_ := xbs_lt (p := fun i => decide (¬ sVal m i = 0)) (K := nN m) (by omega)
      refine xk_store rfl (p := 30) rfl (by decide) (Nat.le_of_ble_eq_true rfl) (ls' := [(2, ((2 : Nat) : Int)), (0, x), (0, y), (0, ((xbs (fun i => decide (¬ sVal m i = 0)) (nN m) : Nat) : Int))]) rfl ?_
      refine xk_load rfl (p := 31) rfl rfl ?_
      refine xk_getf rfl (p := 34) rfl (xob (ly_x L) (by decide)) (v := (2, (((5 + 89 * 0) : Nat) : Int))) (xsl2 rfl (ly_x1 L)) ?_
      refine xk_load rfl (p := 35) rfl rfl ?_
      refine xk_push rfl (p := 36) rfl ?_
      refine xk_icmp rfl (p := 39) rfl (fun c36_3 => ?_) (fun c36_3 => ?_)
      · replace c36_3 : ¬ (x = (-1)) := c36_3
        refine xk_load rfl (p := 44) rfl rfl ?_
        refine xk_load rfl (p := 45) rfl rfl ?_
        refine xk_getf rfl (p := 48) rfl (xob (ly_x L) (by decide)) (v := (2, (((5 + 89 * 0) : Nat) : Int))) (xsl2 rfl (ly_x1 L)) ?_
        refine xk_load rfl (p := 49) rfl rfl ?_
        refine xk_stk (show _ = (0, ((x.toNat : Nat) : Int)) :: [(2, (((5 + 89 * 0) : Nat) : Int)), (0, ((xbs (fun i => decide (¬ sVal m i = 0)) (nN m) : Nat) : Int)), (2, (((5 + 89 * 0) : Nat) : Int))] from congrArg (fun z => ((0, z) : xV) :: [(2, (((5 + 89 * 0) : Nat) : Int)), (0, ((xbs (fun i => decide (¬ sVal m i = 0)) (nN m) : Nat) : Int)), (2, (((5 + 89 * 0) : Nat) : Int))]) (Int.toNat_of_nonneg (show 0 ≤ x by omega)).symm) ?_
        refine xk_callp rfl (p := 52) rfl (by decide) rfl (Nat.le_of_ble_eq_true rfl) (Nat.le_of_ble_eq_true rfl) (xrv (ly_st L hs) (by decide)) (as := [(2, (((5 + 89 * 0) : Nat) : Int)), (0, ((x.toNat : Nat) : Int))]) (r := [(0, ((xbs (fun i => decide (¬ sVal m i = 0)) (nN m) : Nat) : Int)), (2, (((5 + 89 * 0) : Nat) : Int))]) rfl (v := (0, ((xbs (fun i => bFol m (x.toNat) i) (nN m) : Nat) : Int))) (c_namesUnder L hs hI hR (show x.toNat < nN m by omega)) ?_
        refine xk_bin rfl (p := 53) rfl (z := (((xbs (fun i => decide (¬ sVal m i = 0)) (nN m)) &&& (xbs (fun i => bFol m (x.toNat) i) (nN m)) : Nat) : Int)) (congrArg some (xand_s (xbs_lt (by omega)) (xbs_lt (by omega)))) ?_
        refine xk_load rfl (p := 54) rfl rfl ?_
        refine xk_callp rfl (p := 57) rfl (by decide) rfl (Nat.le_of_ble_eq_true rfl) (Nat.le_of_ble_eq_true rfl) (xrv (ly_st L hs) (by decide)) (as := [(2, (((5 + 89 * 0) : Nat) : Int)), (0, (((xbs (fun i => decide (¬ sVal m i = 0)) (nN m)) &&& (xbs (fun i => bFol m (x.toNat) i) (nN m)) : Nat) : Int)), (0, y)]) (r := []) rfl (v := (0, sNum m ((xbs (fun i => decide (¬ sVal m i = 0)) (nN m)) &&& (xbs (fun i => bFol m (x.toNat) i) (nN m))) y)) (c_numberAmong L hs hI hR (Nat.lt_of_le_of_lt Nat.and_le_left (xbs_lt (by omega)))) ?_
        refine xk_ret rfl (rfl) ?_
        exact zRet (congrArg (fun z => (some ((0, z) : xV), m)) (show y_list m x y = sNum m ((xbs (fun i => decide (¬ sVal m i = 0)) (nN m)) &&& (xbs (fun i => bFol m (x.toNat) i) (nN m))) y from ((if_pos (by omega)).trans (by rw [ls_z2 (by omega)])))) hR Fr.rf
      · replace c36_3 : x = (-1) := Decidable.not_not.mp c36_3
        refine xk_load rfl (p := 40) rfl rfl ?_
        refine xk_goto rfl ?_
        refine xk_load rfl (p := 54) rfl rfl ?_
        refine xk_callp rfl (p := 57) rfl (by decide) rfl (Nat.le_of_ble_eq_true rfl) (Nat.le_of_ble_eq_true rfl) (xrv (ly_st L hs) (by decide)) (as := [(2, (((5 + 89 * 0) : Nat) : Int)), (0, ((xbs (fun i => decide (¬ sVal m i = 0)) (nN m) : Nat) : Int)), (0, y)]) (r := []) rfl (v := (0, sNum m (xbs (fun i => decide (¬ sVal m i = 0)) (nN m)) y)) (c_numberAmong L hs hI hR (xbs_lt (by omega))) ?_
        refine xk_ret rfl (rfl) ?_
        exact zRet (congrArg (fun z => (some ((0, z) : xV), m)) (show y_list m x y = sNum m (xbs (fun i => decide (¬ sVal m i = 0)) (nN m)) y from ((if_pos (by omega)).trans (by rw [← ls_z1 (by omega)])))) hR Fr.rf
    · replace c17_2 : ¬ (0 ≤ y) := c17_2
      refine xk_push rfl (p := 21) rfl ?_
      refine xk_ret rfl (rfl) ?_
      exact zRet (congrArg (fun z => (some ((0, z) : xV), m)) (show y_list m x y = (-1) from (if_neg (by omega)))) hR Fr.rf
  · replace c2_1 : ¬ (x = (-1)) := c2_1
    refine xk_load rfl (p := 6) rfl rfl ?_
    refine xk_getf rfl (p := 9) rfl (xob (ly_x L) (by decide)) (v := (2, (((5 + 89 * 0) : Nat) : Int))) (xsl2 rfl (ly_x1 L)) ?_
    refine xk_load rfl (p := 10) rfl rfl ?_
    refine xk_callp rfl (p := 13) rfl (by decide) rfl (Nat.le_of_ble_eq_true rfl) (Nat.le_of_ble_eq_true rfl) (xrv (ly_st L hs) (by decide)) (as := [(2, (((5 + 89 * 0) : Nat) : Int)), (0, x)]) (r := []) rfl (v := (0, (if 0 ≤ x ∧ x < m 292 0 then (1 : Int) else 0))) (c_isName L hs hI hR) ?_
    have iNn_ := iNn hI
    refine xk_if rfl (p := 16) rfl (fun c13_4 => ?_) (fun c13_4 => ?_)
    · replace c13_4 : ¬ (0 ≤ x ∧ x < m 292 0) := xb_e0 c13_4
      refine xk_push rfl (p := 21) rfl ?_
      refine xk_ret rfl (rfl) ?_
      exact zRet (congrArg (fun z => (some ((0, z) : xV), m)) (show y_list m x y = (-1) from (if_neg (by omega)))) hR Fr.rf
    · replace c13_4 : 0 ≤ x ∧ x < m 292 0 := xb_n0 c13_4
      refine xk_load rfl (p := 17) rfl rfl ?_
      refine xk_if rfl (p := 20) rfl (fun c17_5 => ?_) (fun c17_5 => ?_)
      · replace c17_5 : 0 ≤ y := c17_5
        refine xk_load rfl (p := 23) rfl rfl ?_
        refine xk_getf rfl (p := 26) rfl (xob (ly_x L) (by decide)) (v := (2, (((5 + 89 * 0) : Nat) : Int))) (xsl2 rfl (ly_x1 L)) ?_
        refine xk_callp rfl (p := 29) rfl (by decide) rfl (Nat.le_of_ble_eq_true rfl) (Nat.le_of_ble_eq_true rfl) (xrv (ly_st L hs) (by decide)) (as := [(2, (((5 + 89 * 0) : Nat) : Int))]) (r := []) rfl (v := (0, ((xbs (fun i => decide (¬ sVal m i = 0)) (nN m) : Nat) : Int))) (c_namesWithValue L hs hI hR) ?_
        have xbs_ := xbs_lt (p := fun i => decide (¬ sVal m i = 0)) (K := nN m) (by omega)
        refine xk_store rfl (p := 30) rfl (by decide) (Nat.le_of_ble_eq_true rfl) (ls' := [(2, ((2 : Nat) : Int)), (0, x), (0, y), (0, ((xbs (fun i => decide (¬ sVal m i = 0)) (nN m) : Nat) : Int))]) rfl ?_
        refine xk_load rfl (p := 31) rfl rfl ?_
        refine xk_getf rfl (p := 34) rfl (xob (ly_x L) (by decide)) (v := (2, (((5 + 89 * 0) : Nat) : Int))) (xsl2 rfl (ly_x1 L)) ?_
        refine xk_load rfl (p := 35) rfl rfl ?_
        refine xk_push rfl (p := 36) rfl ?_
        refine xk_icmp rfl (p := 39) rfl (fun c36_6 => ?_) (fun c36_6 => ?_)
        · replace c36_6 : ¬ (x = (-1)) := c36_6
          refine xk_load rfl (p := 44) rfl rfl ?_
          refine xk_load rfl (p := 45) rfl rfl ?_
          refine xk_getf rfl (p := 48) rfl (xob (ly_x L) (by decide)) (v := (2, (((5 + 89 * 0) : Nat) : Int))) (xsl2 rfl (ly_x1 L)) ?_
          refine xk_load rfl (p := 49) rfl rfl ?_
          refine xk_stk (show _ = (0, ((x.toNat : Nat) : Int)) :: [(2, (((5 + 89 * 0) : Nat) : Int)), (0, ((xbs (fun i => decide (¬ sVal m i = 0)) (nN m) : Nat) : Int)), (2, (((5 + 89 * 0) : Nat) : Int))] from congrArg (fun z => ((0, z) : xV) :: [(2, (((5 + 89 * 0) : Nat) : Int)), (0, ((xbs (fun i => decide (¬ sVal m i = 0)) (nN m) : Nat) : Int)), (2, (((5 + 89 * 0) : Nat) : Int))]) (Int.toNat_of_nonneg (show 0 ≤ x by omega)).symm) ?_
          refine xk_callp rfl (p := 52) rfl (by decide) rfl (Nat.le_of_ble_eq_true rfl) (Nat.le_of_ble_eq_true rfl) (xrv (ly_st L hs) (by decide)) (as := [(2, (((5 + 89 * 0) : Nat) : Int)), (0, ((x.toNat : Nat) : Int))]) (r := [(0, ((xbs (fun i => decide (¬ sVal m i = 0)) (nN m) : Nat) : Int)), (2, (((5 + 89 * 0) : Nat) : Int))]) rfl (v := (0, ((xbs (fun i => bFol m (x.toNat) i) (nN m) : Nat) : Int))) (c_namesUnder L hs hI hR (show x.toNat < nN m by omega)) ?_
          refine xk_bin rfl (p := 53) rfl (z := (((xbs (fun i => decide (¬ sVal m i = 0)) (nN m)) &&& (xbs (fun i => bFol m (x.toNat) i) (nN m)) : Nat) : Int)) (congrArg some (xand_s (xbs_lt (by omega)) (xbs_lt (by omega)))) ?_
          refine xk_load rfl (p := 54) rfl rfl ?_
          refine xk_callp rfl (p := 57) rfl (by decide) rfl (Nat.le_of_ble_eq_true rfl) (Nat.le_of_ble_eq_true rfl) (xrv (ly_st L hs) (by decide)) (as := [(2, (((5 + 89 * 0) : Nat) : Int)), (0, (((xbs (fun i => decide (¬ sVal m i = 0)) (nN m)) &&& (xbs (fun i => bFol m (x.toNat) i) (nN m)) : Nat) : Int)), (0, y)]) (r := []) rfl (v := (0, sNum m ((xbs (fun i => decide (¬ sVal m i = 0)) (nN m)) &&& (xbs (fun i => bFol m (x.toNat) i) (nN m))) y)) (c_numberAmong L hs hI hR (Nat.lt_of_le_of_lt Nat.and_le_left (xbs_lt (by omega)))) ?_
          refine xk_ret rfl (rfl) ?_
          exact zRet (congrArg (fun z => (some ((0, z) : xV), m)) (show y_list m x y = sNum m ((xbs (fun i => decide (¬ sVal m i = 0)) (nN m)) &&& (xbs (fun i => bFol m (x.toNat) i) (nN m))) y from ((if_pos (by omega)).trans (by rw [ls_z2 (by omega)])))) hR Fr.rf
        · replace c36_6 : x = (-1) := Decidable.not_not.mp c36_6
          refine xk_load rfl (p := 40) rfl rfl ?_
          refine xk_goto rfl ?_
          refine xk_load rfl (p := 54) rfl rfl ?_
          refine xk_callp rfl (p := 57) rfl (by decide) rfl (Nat.le_of_ble_eq_true rfl) (Nat.le_of_ble_eq_true rfl) (xrv (ly_st L hs) (by decide)) (as := [(2, (((5 + 89 * 0) : Nat) : Int)), (0, ((xbs (fun i => decide (¬ sVal m i = 0)) (nN m) : Nat) : Int)), (0, y)]) (r := []) rfl (v := (0, sNum m (xbs (fun i => decide (¬ sVal m i = 0)) (nN m)) y)) (c_numberAmong L hs hI hR (xbs_lt (by omega))) ?_
          refine xk_ret rfl (rfl) ?_
          exact zRet (congrArg (fun z => (some ((0, z) : xV), m)) (show y_list m x y = sNum m (xbs (fun i => decide (¬ sVal m i = 0)) (nN m)) y from ((if_pos (by omega)).trans (by rw [← ls_z1 (by omega)])))) hR Fr.rf
      · replace c17_5 : ¬ (0 ≤ y) := c17_5
        refine xk_push rfl (p := 21) rfl ?_
        refine xk_ret rfl (rfl) ?_
        exact zRet (congrArg (fun z => (some ((0, z) : xV), m)) (show y_list m x y = (-1) from (if_neg (by omega)))) hR Fr.rf
