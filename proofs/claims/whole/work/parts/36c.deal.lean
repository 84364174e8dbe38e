/-! A CHANGE AT ONE DEAL -/
def dv (m : xD) : xD := fun a k => if a = 300 ∨ a = 301 ∨ a = 302 ∨ a = 303 ∨ (a = 292 ∧ k = 13) then 0 else m a k
theorem R3_dv {t m : xD} {s : Nat} : R3 t s (dv m) = R3 t s m := rfl
theorem R4_dv {t m : xD} {s : Nat} : R4 t s (dv m) = R4 t s m := rfl
theorem R2_dv {t m : xD} {s : Nat} : R2 t s (dv m) = R2 t s m := rfl
theorem R6_dv {t m : xD} {s : Nat} : R6 t s (dv m) = R6 t s m := rfl
theorem R7_dv {t m : xD} {s : Nat} : R7 t s (dv m) = R7 t s m := rfl
theorem R8_dv {t m : xD} {s : Nat} : R8 t s (dv m) = R8 t s m := rfl
/-- one deal's clause -/
def R5d (t : xD) (s : Nat) (m : xD) (d : Nat) : Prop := t (78 + 89 * s + 4 * d) 5 = sPha m d ∧ (0 < m 300 d → t (78 + 89 * s + 4 * d) 4 = m 300 d - 1 ∧ t (78 + 89 * s + 4 * d) 3 = m 301 d ∧ ∀ r : Nat, (r : Int) < m 301 d → t (78 + 89 * s + 4 * d + 1) r = m 303 (12 * d + r) ∧ t (78 + 89 * s + 4 * d + 2) r = m 303 (12 * d + 4 + r) ∧ t (78 + 89 * s + 4 * d + 3) r = m 303 (12 * d + 8 + r))
theorem Rep.deal {t u m w : xD} {s d : Nat} (h : Rep t s m) (hI : Inv m) (hd : d < 4) (ht : ∀ a k, ¬ (78 + 89 * s + 4 * d ≤ a ∧ a < 82 + 89 * s + 4 * d) → u a k = t a k) (hm : ∀ a k, ¬ ((a = 300 ∧ k = d) ∨ (a = 301 ∧ k = d) ∨ (a = 302 ∧ k = d) ∨ (a = 303 ∧ 12 * d ≤ k ∧ k < 12 * d + 12) ∨ (a = 292 ∧ k = 13)) → w a k = m a k) (hr : sRec w = sRec m) (ha : sApp w = sApp m) (h5 : R5d u s w d) : Rep u s w := by
  have hN := iNn hI
  have e : dv w = dv m := by
    funext a k
    unfold dv
    by_cases c : a = 300 ∨ a = 301 ∨ a = 302 ∨ a = 303 ∨ (a = 292 ∧ k = 13)
    · rw [if_pos c, if_pos c]
    · rw [if_neg c, if_neg c, hm a k (by omega)]
  have ft : ∀ a k, 5 + 89 * s ≤ a → a < 78 + 89 * s → u a k = t a k := fun a k h1 h2 => ht a k (by omega)
  refine ⟨?_, ?_, ?_, ?_, ?_, ?_, ?_, ?_⟩
  · have h1 := h.1.fr (u := u) (fun k => ft _ k (by omega) (by omega))
    unfold R1
    rw [hr, ha, hm 292 0 (by omega), hm 292 6 (by omega), hm 292 14 (by omega)]
    exact h1
  · have h1 := h.2.1.fr (u := u) (fun k => ft _ k (by omega) (by omega))
    rw [← R2_dv, e, R2_dv]; exact h1
  · have h1 := h.2.2.1.fr (u := u) (fun n k hn => ft _ k (by omega) (by omega))
    rw [← R3_dv, e, R3_dv]; exact h1
  · have h1 := h.2.2.2.1.fr (u := u) (fun n j k hn hj => ft _ k (by omega) (by omega))
    rw [← R4_dv, e, R4_dv]; exact h1
  · intro b hb
    by_cases c : b = d
    · subst c
      exact h5
    · have h1 := h.2.2.2.2.1 b hb
      have e0 := fun k => ht (78 + 89 * s + 4 * b) k (by omega)
      have e1 := fun k => ht (78 + 89 * s + 4 * b + 1) k (by omega)
      have e2 := fun k => ht (78 + 89 * s + 4 * b + 2) k (by omega)
      have e3 := fun k => ht (78 + 89 * s + 4 * b + 3) k (by omega)
      have m0 := hm 300 b (by omega)
      have m1 := hm 301 b (by omega)
      have m2 := hm 302 b (by omega)
      have mr := iD hI hb
      unfold sPha at *
      simp only [e0, e1, e2, e3, m0, m1, m2]
      refine ⟨h1.1, fun hk => ⟨(h1.2 hk).1, (h1.2 hk).2.1, fun r hr => ?_⟩⟩
      have := (h1.2 hk).2.2 r hr
      rw [hm 303 _ (by omega), hm 303 _ (by omega), hm 303 _ (by omega)]
      exact this
  · have h1 := h.2.2.2.2.2.1.fr (u := u) (fun j k hj => ft _ k (by omega) (by omega))
    rw [← R6_dv, e, R6_dv]; exact h1
  · have h1 := h.2.2.2.2.2.2.1.fr (u := u) (fun j k hj => ft _ k (by omega) (by omega))
    rw [← R7_dv, e, R7_dv]; exact h1
  · have h1 := h.2.2.2.2.2.2.2.fr (u := u) (fun j k hj => ft _ k (by omega) (by omega))
    rw [← R8_dv, e, R8_dv]; exact h1
theorem sCom_cg {m w : xD} (h : ∀ e, e < 4 → ((0 < w 300 e ∧ w 302 e = 2) ↔ (0 < m 300 e ∧ m 302 e = 2))) : sCom w = sCom m := by
  unfold sCom
  have : xfst (fun d => decide (0 < w 300 d ∧ w 302 d = 2)) 4 = xfst (fun d => decide (0 < m 300 d ∧ m 302 d = 2)) 4 := by
    refine xfst_eq (xfst_le _ _) (fun i hi => ?_) (fun hl => ?_)
    · have := of_decide_eq_false (xfst_lt (fun d => decide (0 < m 300 d ∧ m 302 d = 2)) 4 i hi)
      have le := xfst_le (fun d => decide (0 < m 300 d ∧ m 302 d = 2)) 4
      exact decide_eq_false (fun hh => this ((h i (by omega)).mp hh))
    · have := of_decide_eq_true (xfst_at (fun d => decide (0 < m 300 d ∧ m 302 d = 2)) 4 hl)
      exact decide_eq_true ((h _ hl).mpr this)
  rw [this]
theorem sRec_cg {m w : xD} (h : sCom w = sCom m) (hd : w 292 13 = m 292 13) : sRec w = sRec m ∧ sApp w = sApp m := by
  unfold sRec sApp
  rw [h, hd]
  exact ⟨rfl, rfl⟩
theorem sCom_one {m : xD} (hI : Inv m) {d : Nat} (hd : d < 4) (h : 0 < m 300 d ∧ m 302 d = 2) : sCom m = ((d : Nat) : Int) := by
  have r := sCom_rng (m := m)
  by_cases c : sCom m = -1
  · exact absurd h (xix_no (P := fun d => 0 < m 300 d ∧ m 302 d = 2) (K := 4) c d hd)
  · have := iC hI (show (sCom m).toNat < 4 by omega) hd (sCom_at c) h
    omega
theorem sCom_nop {m : xD} (h : ∀ d, d < 4 → ¬ (0 < m 300 d ∧ m 302 d = 2)) : sCom m = -1 := by
  have r := sCom_rng (m := m)
  apply Classical.byContradiction
  intro c
  exact h _ (by omega) (sCom_at c)
/-! the invariant, at one deal -/
theorem Inv.deal {m w : xD} (h : Inv m) {d : Nat} (hd : d < 4) (hm : ∀ a k, ¬ ((a = 300 ∧ k = d) ∨ (a = 301 ∧ k = d) ∨ (a = 302 ∧ k = d) ∨ (a = 303 ∧ 12 * d ≤ k ∧ k < 12 * d + 12) ∨ (a = 292 ∧ k = 13)) → w a k = m a k) (h4 : 0 ≤ w 300 d ∧ w 300 d ≤ 4 ∧ 0 ≤ w 301 d ∧ w 301 d ≤ 4 ∧ 0 ≤ w 302 d ∧ w 302 d ≤ 2) (h5 : 0 < w 300 d → ∀ r, r < nR w d → 0 ≤ w 303 (12 * d + r) ∧ w 303 (12 * d + r) < m 292 0) (h6 : 0 < w 300 d → ∀ r q, r < nR w d → q < nR w d → w 303 (12 * d + r) = w 303 (12 * d + q) → r = q) (h7 : ∀ e, e < 4 → e ≠ d → (0 < w 300 d ∧ w 302 d = 2) → ¬ (0 < m 300 e ∧ m 302 e = 2)) (h8 : (∀ e, e < 4 → e ≠ d → (0 < m 300 e ∧ m 302 e = 2) → 0 ≤ w 292 13 ∧ w 292 13 ≤ m 301 e + 1) ∧ ((0 < w 300 d ∧ w 302 d = 2) → 0 ≤ w 292 13 ∧ w 292 13 ≤ w 301 d + 1)) : Inv w := by
  have e : dv w = dv m := by
    funext a k
    unfold dv
    by_cases c : a = 300 ∨ a = 301 ∨ a = 302 ∨ a = 303 ∨ (a = 292 ∧ k = 13)
    · rw [if_pos c, if_pos c]
    · rw [if_neg c, if_neg c, hm a k (by omega)]
  have h0 : Inv (dv m) := ⟨h.1, h.2.1, h.2.2.1, fun d _ => (by decide : (0 : Int) ≤ 0 ∧ (0 : Int) ≤ 4 ∧ (0 : Int) ≤ 0 ∧ (0 : Int) ≤ 4 ∧ (0 : Int) ≤ 0 ∧ (0 : Int) ≤ 2), fun d r _ hk => absurd hk (by show ¬ (0 : Int) < 0; decide), fun d r q _ hk => absurd hk (by show ¬ (0 : Int) < 0; decide), fun d e _ _ hk => absurd hk.1 (by show ¬ (0 : Int) < 0; decide), fun d _ hk => absurd hk.1 (by show ¬ (0 : Int) < 0; decide), h.2.2.2.2.2.2.2.2⟩
  rw [← e] at h0
  have o0 := fun b (hb : b ≠ d) => hm 300 b (by omega)
  have o1 := fun b (hb : b ≠ d) => hm 301 b (by omega)
  have o2 := fun b (hb : b ≠ d) => hm 302 b (by omega)
  have eN : w 292 0 = m 292 0 := hm 292 0 (by omega)
  refine ⟨h0.1, h0.2.1, h0.2.2.1, fun b hb => ?_, fun b r hb hk hr => ?_, fun b r q hb hk hr hq he => ?_, fun a b ha hb h1 h2 => ?_, fun b hb h1 => ?_, h0.2.2.2.2.2.2.2.2⟩
  · by_cases c : b = d
    · rw [c]; exact h4
    · rw [o0 b c, o1 b c, o2 b c]; exact iD h hb
  · rw [eN]
    by_cases c : b = d
    · subst c; exact h5 hk r hr
    · have hr2 : r < nR m b := by unfold nR at hr ⊢; rw [o1 b c] at hr; exact hr
      have := iRn h hb
      rw [o0 b c] at hk
      rw [hm 303 _ (by omega)]
      exact iRo h hb hk hr2
  · by_cases c : b = d
    · subst c; exact h6 hk r q hr hq he
    · have hr2 : r < nR m b := by unfold nR at hr ⊢; rw [o1 b c] at hr; exact hr
      have hq2 : q < nR m b := by unfold nR at hq ⊢; rw [o1 b c] at hq; exact hq
      have := iRn h hb
      rw [o0 b c] at hk
      rw [hm 303 _ (by omega), hm 303 _ (by omega)] at he
      exact iRd h hb hk hr2 hq2 he
  · by_cases ca : a = d
    · by_cases cb : b = d
      · rw [ca, cb]
      · rw [ca] at h1
        rw [o0 b cb, o2 b cb] at h2
        exact absurd h2 (h7 b hb cb h1)
    · rw [o0 a ca, o2 a ca] at h1
      by_cases cb : b = d
      · rw [cb] at h2
        exact absurd h1 (h7 a ha ca h2)
      · rw [o0 b cb, o2 b cb] at h2
        exact iC h ha hb h1 h2
  · by_cases c : b = d
    · subst c; exact h8.2 h1
    · rw [o0 b c, o2 b c] at h1
      rw [o1 b c]
      exact h8.1 b hb c h1
