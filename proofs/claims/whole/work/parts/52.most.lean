/-! THE MOST THAT CAN ALL GO -/
/-- all of a set can go, in some order, from what is there -/
def gy (m : xD) : Nat → Nat → (Nat → Int) → Prop
  | 0, l, _ => l = 0
  | n + 1, l, f => l = 0 ∨ ∃ d, d < 4 ∧ l.testBit d = true ∧ bGo m d f = true ∧ gy m n (xdf l (2 ^ d)) (fUp m d f)
theorem gy_0 {m : xD} {n : Nat} {f : Nat → Int} : gy m n 0 f := by
  cases n with
  | zero => rfl
  | succ n => exact Or.inl rfl
theorem exA_gy {m : xD} {a w : Int} : ∀ (n l : Nat) (f : Nat → Int) (g : Int) (A : Acc), 0 ≤ A.2.1 → A.2.1 ≤ A.1 → A.1 + pw4 n ≤ 100000 → (A.1 < (exA m a w n l f g A).1 ↔ gy m n l f)
  | 0, l, f, g, A, h0, h1, h2 => by
    have hp : pw4 0 = 1 := rfl
    have e1 : xadd A.1 1 = A.1 + 1 := xadd_r (by omega) (by omega)
    show A.1 < (if l = 0 then lfA m a w f g A else A).1 ↔ l = 0
    by_cases c : l = 0
    · rw [if_pos c]
      show A.1 < xadd A.1 1 ↔ l = 0
      rw [e1]
      omega
    · rw [if_neg c]
      omega
  | n + 1, l, f, g, A, h0, h1, h2 => by
    have hp := pw4_pos n
    have hq : pw4 (n + 1) = 4 * pw4 n := rfl
    have e1 : xadd A.1 1 = A.1 + 1 := xadd_r (by omega) (by omega)
    by_cases c : l = 0
    · subst c
      rw [show exA m a w (n + 1) 0 f g A = lfA m a w f g A from exG_0]
      show A.1 < xadd A.1 1 ↔ gy m (n + 1) 0 f
      rw [e1]
      exact ⟨fun _ => Or.inl rfl, fun _ => by omega⟩
    · have e : exA m a w (n + 1) l f g A = fold4 (fun d B => if l.testBit d = true ∧ bGo m d f = true then exA m a w n (xdf l (2 ^ d)) (fUp m d f) (xadd (xadd (xmul 10 g) ((d : Nat) : Int)) 1) B else B) 4 A := exG_s c
      rw [e]
      have key := fold4_inv (s := fun d B => if l.testBit d = true ∧ bGo m d f = true then exA m a w n (xdf l (2 ^ d)) (fUp m d f) (xadd (xadd (xmul 10 g) ((d : Nat) : Int)) 1) B else B) (A := A) (P := fun k B => A.1 ≤ B.1 ∧ B.1 ≤ A.1 + (k : Int) * pw4 n ∧ 0 ≤ B.2.1 ∧ B.2.1 ≤ B.1 ∧ (A.1 < B.1 ↔ ∃ d, d < k ∧ l.testBit d = true ∧ bGo m d f = true ∧ gy m n (xdf l (2 ^ d)) (fUp m d f))) ⟨by omega, by omega, h0, h1, ⟨fun x => absurd x (by omega), fun ⟨d, hd, _⟩ => absurd hd (by omega)⟩⟩ (fun k B hk i => by
        have i1 := i.1
        have i2 := i.2.1
        have i3 := i.2.2.1
        have i4 := i.2.2.2.1
        have i5 := i.2.2.2.2
        have kb : B.1 + pw4 n ≤ 100000 := by
          rcases (by omega : k = 0 ∨ k = 1 ∨ k = 2 ∨ k = 3) with rfl | rfl | rfl | rfl <;> omega
        have kc : A.1 + (k : Int) * pw4 n + pw4 n = A.1 + ((k + 1 : Nat) : Int) * pw4 n := by
          rcases (by omega : k = 0 ∨ k = 1 ∨ k = 2 ∨ k = 3) with rfl | rfl | rfl | rfl <;> omega
        show A.1 ≤ (if l.testBit k = true ∧ bGo m k f = true then exA m a w n (xdf l (2 ^ k)) (fUp m k f) (xadd (xadd (xmul 10 g) ((k : Nat) : Int)) 1) B else B).1 ∧ _
        by_cases c2 : l.testBit k = true ∧ bGo m k f = true
        · simp only [if_pos c2]
          have b := exA_bd (m := m) (a := a) (w := w) n (xdf l (2 ^ k)) (fUp m k f) (xadd (xadd (xmul 10 g) ((k : Nat) : Int)) 1) B i3 i4 kb
          have ih := exA_gy (m := m) (a := a) (w := w) n (xdf l (2 ^ k)) (fUp m k f) (xadd (xadd (xmul 10 g) ((k : Nat) : Int)) 1) B i3 i4 kb
          generalize exA m a w n (xdf l (2 ^ k)) (fUp m k f) (xadd (xadd (xmul 10 g) ((k : Nat) : Int)) 1) B = C at b ih ⊢
          refine ⟨by omega, by omega, b.2.2.1, b.2.2.2, ?_, ?_⟩
          · intro x
            by_cases c3 : A.1 < B.1
            · obtain ⟨d, d1, d2⟩ := i5.mp c3
              exact ⟨d, by omega, d2⟩
            · exact ⟨k, by omega, c2.1, c2.2, ih.mp (by omega)⟩
          · rintro ⟨d, d1, d2, d3, d4⟩
            by_cases c3 : d = k
            · subst c3
              have := ih.mpr d4
              omega
            · have := i5.mpr ⟨d, by omega, d2, d3, d4⟩
              omega
        · simp only [if_neg c2]
          refine ⟨i1, by omega, i3, i4, ?_, ?_⟩
          · intro x
            obtain ⟨d, d1, d2⟩ := i5.mp x
            exact ⟨d, by omega, d2⟩
          · rintro ⟨d, d1, d2, d3, d4⟩
            by_cases c3 : d = k
            · subst c3
              exact absurd ⟨d2, d3⟩ c2
            · exact i5.mpr ⟨d, by omega, d2, d3, d4⟩) 4 (Nat.le_refl 4)
      rw [key.2.2.2.2]
      constructor
      · exact fun x => Or.inr x
      · rintro (x | x)
        · exact absurd x c
        · exact x
/-- a set within another -/
def sb (x y : Nat) : Bool := (List.range 4).all (fun d => !x.testBit d || y.testBit d)
theorem sb_all1 : (List.range 16).all (fun l => (List.range 16).all (fun x => (List.range 4).all (fun d => !(l.testBit d && sb x (xdf l (2 ^ d))) || (decide ((x ||| 2 ^ d) < 16) && sb (x ||| 2 ^ d) l && (x ||| 2 ^ d).testBit d && decide (xdf (x ||| 2 ^ d) (2 ^ d) = x) && decide (xdf l (x ||| 2 ^ d) = xdf (xdf l (2 ^ d)) x))))) = true := by decide +kernel
theorem sb_1 {l x d : Nat} (hl : l < 16) (hx : x < 16) (hd : d < 4) (h1 : l.testBit d = true) (h2 : sb x (xdf l (2 ^ d)) = true) : (x ||| 2 ^ d) < 16 ∧ sb (x ||| 2 ^ d) l = true ∧ (x ||| 2 ^ d).testBit d = true ∧ xdf (x ||| 2 ^ d) (2 ^ d) = x ∧ xdf l (x ||| 2 ^ d) = xdf (xdf l (2 ^ d)) x := by
  have a := xball (xball (xball sb_all1 hl) hx) hd
  rw [h1, h2] at a
  simpa [and_assoc] using a
theorem sb_all2 : (List.range 16).all (fun l => (List.range 16).all (fun x => (List.range 4).all (fun d => !(x.testBit d && sb x l) || (decide (xdf x (2 ^ d) < 16) && sb (xdf x (2 ^ d)) (xdf l (2 ^ d)) && l.testBit d && decide (xdf (xdf l (2 ^ d)) (xdf x (2 ^ d)) = xdf l x))))) = true := by decide +kernel
theorem sb_2 {l x d : Nat} (hl : l < 16) (hx : x < 16) (hd : d < 4) (h1 : x.testBit d = true) (h2 : sb x l = true) : xdf x (2 ^ d) < 16 ∧ sb (xdf x (2 ^ d)) (xdf l (2 ^ d)) = true ∧ l.testBit d = true ∧ xdf (xdf l (2 ^ d)) (xdf x (2 ^ d)) = xdf l x := by
  have a := xball (xball (xball sb_all2 hl) hx) hd
  rw [h1, h2] at a
  simpa [and_assoc] using a
theorem sb_all3 : (List.range 16).all (fun l => decide (xdf l 0 = l) && sb 0 l && (List.range 16).all (fun x => decide (xdf l x < 16) && (!(sb x l) || decide (xdf l (xdf l x) = x)))) = true := by decide +kernel
theorem sb_3 {l : Nat} (hl : l < 16) : xdf l 0 = l ∧ sb 0 l = true := by
  have a := xball sb_all3 hl
  rw [Bool.and_eq_true, Bool.and_eq_true] at a
  exact ⟨of_decide_eq_true a.1.1, a.1.2⟩
theorem sb_4 {l x : Nat} (hl : l < 16) (hx : x < 16) : xdf l x < 16 ∧ (sb x l = true → xdf l (xdf l x) = x) := by
  have a := xball sb_all3 hl
  rw [Bool.and_eq_true, Bool.and_eq_true] at a
  have b := xball a.2 hx
  rw [Bool.and_eq_true] at b
  refine ⟨of_decide_eq_true b.1, fun h => ?_⟩
  have c := b.2
  rw [h] at c
  exact of_decide_eq_true c
theorem sb_iff {x y : Nat} : sb x y = true ↔ ∀ d, d < 4 → x.testBit d = true → y.testBit d = true := by
  unfold sb
  rw [List.all_eq_true]
  constructor
  · intro h d hd hb
    have := h d (List.mem_range.mpr hd)
    rw [hb] at this
    exact this
  · intro h d hd
    have := h d (List.mem_range.mp hd)
    cases e : x.testBit d with
    | false => rfl
    | true => exact this e
/-- of more deals, or of the least number -/
def kz (z : Nat) : Nat := 16 * sBc z + (15 - z)
theorem nGo_k {set l : Nat} {A : Acd} (hz : xdf set l < 16) (hA : A.2 < 16) : (nGo set l A).2 < 16 ∧ kz A.2 ≤ kz (nGo set l A).2 ∧ kz (xdf set l) ≤ kz (nGo set l A).2 ∧ ((nGo set l A).2 = A.2 ∨ (nGo set l A).2 = xdf set l) := by
  show (if sBc A.2 < sBc (xdf set l) ∨ (sBc A.2 = sBc (xdf set l) ∧ xdf set l < A.2) then xdf set l else A.2) < 16 ∧ kz A.2 ≤ kz (if sBc A.2 < sBc (xdf set l) ∨ (sBc A.2 = sBc (xdf set l) ∧ xdf set l < A.2) then xdf set l else A.2) ∧ kz (xdf set l) ≤ kz (if sBc A.2 < sBc (xdf set l) ∨ (sBc A.2 = sBc (xdf set l) ∧ xdf set l < A.2) then xdf set l else A.2) ∧ ((if sBc A.2 < sBc (xdf set l) ∨ (sBc A.2 = sBc (xdf set l) ∧ xdf set l < A.2) then xdf set l else A.2) = A.2 ∨ (if sBc A.2 < sBc (xdf set l) ∨ (sBc A.2 = sBc (xdf set l) ∧ xdf set l < A.2) then xdf set l else A.2) = xdf set l)
  split
  · refine ⟨hz, ?_, Nat.le_refl _, Or.inr rfl⟩
    unfold kz
    omega
  · refine ⟨hA, Nat.le_refl _, ?_, Or.inl rfl⟩
    unfold kz
    omega
theorem startC_2 {m : xD} {a w : Int} {set l : Nat} {f : Nat → Int} {dg : Int} {A : Acd} : (startC m a w set l f dg A).2 = (nGo set l A).2 := by
  unfold startC
  split <;> rfl
theorem exC_mx {m : xD} {a w : Int} {set : Nat} (hs : set < 16) : ∀ (n l : Nat) (f : Nat → Int) (g : Int) (A : Acd), l < 16 → A.2 < 16 → (exC m a w set n l f g A).2 < 16 ∧ kz A.2 ≤ kz (exC m a w set n l f g A).2 ∧ ((exC m a w set n l f g A).2 = A.2 ∨ ∃ x, x < 16 ∧ sb x l = true ∧ gy m n x f ∧ (exC m a w set n l f g A).2 = xdf set (xdf l x)) ∧ ∀ x, x < 16 → sb x l = true → gy m n x f → kz (xdf set (xdf l x)) ≤ kz (exC m a w set n l f g A).2
  | 0, l, f, g, A, hl, hA => by
    have e : (exC m a w set 0 l f g A).2 = (nGo set l A).2 := startC_2 (m := m) (a := a) (w := w) (f := f) (dg := g)
    have b := nGo_k (set := set) (l := l) (A := A) (sb_4 hs hl).1 hA
    have z := sb_3 hl
    rw [e]
    refine ⟨b.1, b.2.1, ?_, ?_⟩
    · rcases b.2.2.2 with c | c
      · exact Or.inl c
      · exact Or.inr ⟨0, by decide, z.2, rfl, by rw [z.1]; exact c⟩
    · intro x _ _ hx
      have hx : x = 0 := hx
      subst hx
      rw [z.1]
      exact b.2.2.1
  | n + 1, l, f, g, A, hl, hA => by
    have z := sb_3 hl
    have b : (startC m a w set l f g A).2 < 16 ∧ kz A.2 ≤ kz (startC m a w set l f g A).2 ∧ kz (xdf set l) ≤ kz (startC m a w set l f g A).2 ∧ ((startC m a w set l f g A).2 = A.2 ∨ (startC m a w set l f g A).2 = xdf set l) := by
      rw [startC_2]
      exact nGo_k (sb_4 hs hl).1 hA
    rw [exC_s]
    have key := fold4_inv (s := sC m a w set n l f g) (A := startC m a w set l f g A) (P := fun k B => B.2 < 16 ∧ kz A.2 ≤ kz B.2 ∧ kz (xdf set l) ≤ kz B.2 ∧ (B.2 = A.2 ∨ ∃ x, x < 16 ∧ sb x l = true ∧ gy m (n + 1) x f ∧ B.2 = xdf set (xdf l x)) ∧ ∀ d x, d < k → l.testBit d = true → bGo m d f = true → x < 16 → sb x (xdf l (2 ^ d)) = true → gy m n x (fUp m d f) → kz (xdf set (xdf (xdf l (2 ^ d)) x)) ≤ kz B.2)
      ⟨b.1, b.2.1, b.2.2.1, by
        rcases b.2.2.2 with c | c
        · exact Or.inl c
        · exact Or.inr ⟨0, by decide, z.2, Or.inl rfl, by rw [z.1]; exact c⟩, fun d x hd => absurd hd (by omega)⟩ (fun k B hk i => by
        obtain ⟨i1, i2, i3, i4, i5⟩ := i
        by_cases c : l.testBit k = true ∧ bGo m k f = true
        · rw [sC_y c]
          obtain ⟨r1, r2, r3, r4⟩ := exC_mx hs n (xdf l (2 ^ k)) (fUp m k f) (xadd (xadd (xmul 10 g) ((k : Nat) : Int)) 1) B (pc4_st hl hk c.1).1 i1
          refine ⟨r1, Nat.le_trans i2 r2, Nat.le_trans i3 r2, ?_, ?_⟩
          · rcases r3 with r3 | ⟨x, x1, x2, x3, x4⟩
            · rw [r3]
              exact i4
            · obtain ⟨y1, y2, y3, y4, y5⟩ := sb_1 hl x1 hk c.1 x2
              refine Or.inr ⟨x ||| 2 ^ k, y1, y2, Or.inr ⟨k, hk, y3, c.2, ?_⟩, ?_⟩
              · rw [y4]
                exact x3
              · rw [y5]
                exact x4
          · intro d x hd hb hg hx hsb hgy
            by_cases cd : d = k
            · subst cd
              exact r4 x hx hsb hgy
            · exact Nat.le_trans (i5 d x (by omega) hb hg hx hsb hgy) r2
        · rw [sC_n c]
          refine ⟨i1, i2, i3, i4, fun d x hd hb hg => ?_⟩
          by_cases cd : d = k
          · subst cd
            exact absurd ⟨hb, hg⟩ c
          · exact i5 d x (by omega) hb hg) 4 (Nat.le_refl 4)
    obtain ⟨k1, k2, k3, k4, k5⟩ := key
    refine ⟨k1, k2, k4, fun x hx hsb hgy => ?_⟩
    rcases hgy with rfl | ⟨d, d1, d2, d3, d4⟩
    · rw [z.1]
      exact k3
    · obtain ⟨y1, y2, y3, y4⟩ := sb_2 hl hx d1 d2 hsb
      have := k5 d (xdf x (2 ^ d)) d1 y3 d3 y1 y2 d4
      rw [y4] at this
      exact this
theorem nCan_16 {m : xD} : nCan m < 16 := nCan_lt
theorem bSet_sb {m : xD} {x : Nat} (hx : x < 16) : bSet m ((x : Nat) : Int) = true ↔ sb x (nCan m) = true := by
  rw [bSet_iff, sb_iff]
  constructor
  · rintro ⟨_, _, h⟩ d hd hb
    rw [Int.toNat_natCast] at h
    exact nCan_bit.mpr ⟨hd, h d hd hb⟩
  · intro h
    refine ⟨by omega, by omega, fun d hd hb => ?_⟩
    rw [Int.toNat_natCast] at hb
    exact (nCan_bit.mp (h d hd hb)).2
theorem exN_gy {m : xD} {x : Nat} : 0 < (exN m (-1) 0 ((x : Nat) : Int)).1 ↔ gy m 4 x (sVal m) := by
  have := exA_gy (m := m) (a := -1) (w := 0) 4 ((x : Nat) : Int).toNat (sVal m) 0 (0, 0, 0, -5) (by decide) (by decide) (by decide)
  rw [Int.toNat_natCast] at this
  unfold exN
  rw [Int.toNat_natCast]
  exact this
theorem sMo_mx {m : xD} : ∀ K, K ≤ 15 → sMo m K ≤ K ∧ sb (sMo m K) (nCan m) = true ∧ gy m 4 (sMo m K) (sVal m) ∧ ∀ x, x ≤ K → sb x (nCan m) = true → gy m 4 x (sVal m) → kz x ≤ kz (sMo m K)
  | 0, _ => ⟨Nat.le_refl 0, (sb_3 nCan_16).2, gy_0, fun x hx _ _ => by
      rw [show x = 0 by omega]
      exact Nat.le_refl _⟩
  | K + 1, hK => by
    obtain ⟨i1, i2, i3, i4⟩ := sMo_mx (m := m) K (by omega)
    have e : sMo m (K + 1) = if bSet m ((K + 1 : Nat) : Int) = true ∧ sBc (sMo m K) < sBc (K + 1) ∧ 0 < (exN m (-1) 0 ((K + 1 : Nat) : Int)).1 then K + 1 else sMo m K := rfl
    by_cases c : bSet m ((K + 1 : Nat) : Int) = true ∧ sBc (sMo m K) < sBc (K + 1) ∧ 0 < (exN m (-1) 0 ((K + 1 : Nat) : Int)).1
    · rw [e, if_pos c]
      refine ⟨Nat.le_refl _, (bSet_sb (by omega)).mp c.1, exN_gy.mp c.2.2, fun x hx hs hg => ?_⟩
      by_cases cx : x = K + 1
      · rw [cx]
        exact Nat.le_refl _
      · have := i4 x (by omega) hs hg
        have := c.2.1
        unfold kz at *
        omega
    · rw [e, if_neg c]
      refine ⟨by omega, i2, i3, fun x hx hs hg => ?_⟩
      by_cases cx : x = K + 1
      · have h1 := (bSet_sb (x := x) (by omega)).mpr hs
        have h2 := exN_gy.mpr hg
        rw [cx] at h1 h2
        have h3 : ¬ sBc (sMo m K) < sBc (K + 1) := fun h => c ⟨h1, h, h2⟩
        rw [cx]
        unfold kz
        omega
      · exact i4 x (by omega) hs hg
theorem exC_most {m : xD} : (exC m (-1) 0 (nCan m) 4 (nCan m) (sVal m) 0 ((0, 0, 0, -5), 0)).2 = sMo m 15 := by
  obtain ⟨a1, a2, a3, a4⟩ := exC_mx (m := m) (a := -1) (w := 0) (nCan_16 (m := m)) 4 (nCan m) (sVal m) 0 ((0, 0, 0, -5), 0) nCan_16 (by decide)
  obtain ⟨b1, b2, b3, b4⟩ := sMo_mx (m := m) 15 (by decide)
  generalize (exC m (-1) 0 (nCan m) 4 (nCan m) (sVal m) 0 ((0, 0, 0, -5), 0)).2 = R at a1 a2 a3 a4 ⊢
  generalize sMo m 15 = b at b1 b2 b3 b4 ⊢
  have g1 : sb R (nCan m) = true ∧ gy m 4 R (sVal m) := by
    rcases a3 with a3 | ⟨x, x1, x2, x3, x4⟩
    · have a3 : R = 0 := a3
      rw [a3]
      exact ⟨(sb_3 nCan_16).2, gy_0⟩
    · rw [x4, (sb_4 nCan_16 x1).2 x2]
      exact ⟨x2, x3⟩
  have h1 := b4 R (by omega) g1.1 g1.2
  have h2 := a4 b (by omega) b2 b3
  rw [(sb_4 nCan_16 (by omega)).2 b2] at h2
  unfold kz at h1 h2
  omega
