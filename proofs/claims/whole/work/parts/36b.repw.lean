/-! SMALL WRITES KEEP THE STORE'S PICTURE -/
theorem Rep.put {t m : xD} {s d R p1 p2 p3 : Nat} {x y z : Int} (h : Rep t s m) (hI : Inv m) (hd : d < 4) (hk : 0 < m 300 d) (hR : R = nR m d) (hR4 : R < 4) (h1 : p1 = 12 * d + R) (h2 : p2 = 12 * d + 4 + R) (h3 : p3 = 12 * d + 8 + R) : Rep (xupd (xupd (xupd (xupd t (78 + 89 * s + 4 * d + 1) R x) (78 + 89 * s + 4 * d + 2) R y) (78 + 89 * s + 4 * d + 3) R z) (78 + 89 * s + 4 * d) 3 ((R + 1 : Nat) : Int)) s (xupd (xupd (xupd (xupd m 303 p1 x) 303 p2 y) 303 p3 z) 301 d ((R + 1 : Nat) : Int)) := by
  have hN := iNn hI
  have hr := iRn hI hd
  subst h1 h2 h3
  refine ⟨R1.fr (m := xupd (xupd (xupd (xupd m 303 _ x) 303 _ y) 303 _ z) 301 d _) h.1 (fun k => ?_), R2.fr h.2.1 (fun k => ?_), R3.fr h.2.2.1 (fun n k hn => ?_), R4.fr h.2.2.2.1 (fun n j k hn hj => ?_), ?_, R6.fr h.2.2.2.2.2.1 (fun j k hj => ?_), R7.fr h.2.2.2.2.2.2.1 (fun j k hj => ?_), R8.fr h.2.2.2.2.2.2.2 (fun j k hj => ?_)⟩
  · simp (disch := omega) only [xupd_ne]
  · simp (disch := omega) only [xupd_ne]
  · have hn : n < nN m := hn
    simp (disch := omega) only [xupd_ne]
  · have hn : n < nN m := hn
    simp (disch := omega) only [xupd_ne]
  · intro e he
    have h5 := h.2.2.2.2.1 e he
    by_cases c : e = d
    · subst c
      refine ⟨?_, fun _ => ⟨?_, ?_, fun r hr2 => ?_⟩⟩
      · simp (disch := omega) only [xupd_ne]
        exact h5.1
      · simp (disch := omega) only [xupd_ne]
        exact (h5.2 hk).1
      · exact xupd_eq.trans xupd_eq.symm
      · have hr2 : ((r : Nat) : Int) < ((R + 1 : Nat) : Int) := by rw [xupd_eq] at hr2; exact hr2
        by_cases c2 : r = R
        · subst c2
          refine ⟨?_, ?_, ?_⟩ <;> simp (disch := omega) only [xupd_ne, xupd_eq]
        · have := (h5.2 hk).2.2 r (by omega)
          refine ⟨?_, ?_, ?_⟩
          · simp (disch := omega) only [xupd_ne]; exact this.1
          · simp (disch := omega) only [xupd_ne]; exact this.2.1
          · simp (disch := omega) only [xupd_ne]; exact this.2.2
    · refine ⟨?_, fun hke => ⟨?_, ?_, fun r hr2 => ?_⟩⟩
      · simp (disch := omega) only [xupd_ne]
        exact h5.1
      · simp (disch := omega) only [xupd_ne]
        exact (h5.2 hke).1
      · simp (disch := omega) only [xupd_ne]
        exact (h5.2 hke).2.1
      · have hre := iRn hI he
        have hr2 : ((r : Nat) : Int) < m 301 e := by rw [xupd_ne (by omega)] at hr2; exact hr2
        have := (h5.2 hke).2.2 r hr2
        refine ⟨?_, ?_, ?_⟩
        · simp (disch := omega) only [xupd_ne]; exact this.1
        · simp (disch := omega) only [xupd_ne]; exact this.2.1
        · simp (disch := omega) only [xupd_ne]; exact this.2.2
  · simp (disch := omega) only [xupd_ne]
  · simp (disch := omega) only [xupd_ne]
  · simp (disch := omega) only [xupd_ne]
